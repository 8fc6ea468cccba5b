import java.util.function.Supplier;

/** The sentences of Terms 3 and of promises 25 to 28 that name a bound, each with a test of its own. */
public final class BoundsOfTurnsTest extends Check {
    private static final Supplier<TwoGames> ALL = Check::oneOfAll;

    public static void main(String[] args) {
        afterNumbers();
        afterBadAheadOfFindings();
        afterNoTurn();
        afterAllWonOrLost();
        afterEveryPurse();
        afterFarAway();
        afterOverRests();
        meanAfterNumbers();
        meanAfterAtTheBounds();
        endsNumbers();
        endsPursesInOrder();
        endsNineApart();
        endsBadAheadOfUnlike();
        endsUnlike();
        endsForEver();
        endsForEverOutside();
        endsStateBehindOthers();
        endsNeverAndAlways();
        runNumbers();
        runEnds();
        runBadAheadOfUnlike();
        runUnlike();
        runBehindTwoEnds();
        runOfTwelve();
        end("BoundsOfTurnsTest");
    }

    /** Promise 25: "BAD: n, purses beyond -40 .. 40 (the first -20 .. 20)"; Terms 3: "n turns (0 .. 9)". */
    private static void afterNumbers() {
        for (int m = 1; m <= 3; m++) {
            Supplier<TwoGames> by = oneOfAllBy(m);
            dueBounds(by, "25 after r", 0, 3, (x, v) -> x.after(v, 0, 1, 1));
            dueBounds(by, "25 after purse", -20, 20, (x, v) -> x.after(0, v, 1, 1));
            dueBounds(by, "25 after n", 0, 9, (x, v) -> x.after(0, 0, v, 1));
            dueBounds(by, "25 after then", -40, 40, (x, v) -> x.after(0, 0, 1, v));
        }
        dueBounds(ALL, "25 after then from -20", -40, 40, (x, v) -> x.after(0, -20, 0, v));
        dueBounds(ALL, "25 after then from 20", -40, 40, (x, v) -> x.after(0, 20, 9, v));
    }

    private static void afterBadAheadOfFindings() {
        for (int r = 1; r <= 2; r++) {
            int unfit = r;
            int finding = r == 1 ? UNLIKE : NOTHING;
            dueFound(ALL, "25 after of row " + r, finding, x -> x.after(unfit, 20, 9, -40));
            dueFound(ALL, "26 meanAfter of row " + r, finding, x -> x.meanAfter(unfit, -20, 0));
            dueBadOutside(ALL, "25 BAD purse ahead", -20, 20, (x, v) -> x.after(unfit, v, 1, 1));
            dueBadOutside(ALL, "25 BAD n ahead", 0, 9, (x, v) -> x.after(unfit, 0, v, 1));
            dueBadOutside(ALL, "25 BAD then ahead", -40, 40, (x, v) -> x.after(unfit, 0, 1, v));
            dueBadOutside(ALL, "26 BAD purse ahead", -20, 20, (x, v) -> x.meanAfter(unfit, v, 1));
            dueBadOutside(ALL, "26 BAD n ahead", 0, 9, (x, v) -> x.meanAfter(unfit, 0, v));
        }
    }

    /** Terms 3: no turn leaves the purse as it is. */
    private static void afterNoTurn() {
        TwoGames x = oneOfAll();
        for (int purse : new int[] {-20, -1, 0, 20}) {
            dueTold(x, "25 no turn from " + purse, x.after(0, purse, 0, purse), 1, 1, 1);
            dueTold(x, "25 no turn to one more", x.after(0, purse, 0, purse + 1), 1, 0, 1);
            dueTold(x, "25 no turn to one less", x.after(0, purse, 0, purse - 1), 1, 0, 1);
            dueTold(x, "26 no turn from " + purse, x.meanAfter(0, purse, 0), 1, purse, 1);
        }
    }

    /** Terms 1: "Who wins has 1 more in the purse, who loses 1 less". */
    private static void afterAllWonOrLost() {
        for (int m = 1; m <= 3; m++) {
            TwoGames x = new TwoGames();
            x.play();
            x.flat(0);
            x.rest(m);
            lay(x, 0, 0);
            lay(x, 1, 1);
            for (int n = 0; n <= 9; n++) {
                dueTold(x, "25 won " + n, x.after(0, 20, n, 20 + n), 1, 1, 1);
                dueTold(x, "25 lost " + n, x.after(1, -20, n, -20 - n), 1, 1, 1);
                dueTold(x, "25 won " + n + ", one more", x.after(0, 20, n, 21 + n), 1, 0, 1);
                dueTold(x, "25 lost " + n + ", one less", x.after(1, -20, n, -21 - n), 1, 0, 1);
            }
        }
    }

    /** Nine even turns: the purses from 9 less to 9 more, every second one. */
    private static void afterEveryPurse() {
        int[] paths = {1, 9, 36, 84, 126, 126, 84, 36, 9, 1};
        TwoGames x = new TwoGames();
        x.flat(6);
        x.row(3, 4);
        for (int first : new int[] {-20, 20}) {
            for (int k = 0; k <= 9; k++) {
                due("25 even", x.after(3, first, 9, first - 9 + 2 * k), 1);
                due("25 even told " + k, x.upper() * 512, paths[k] * x.lower());
                dueTold(x, "25 between " + k, x.after(3, first, 9, first - 10 + 2 * k), 1, 0, 1);
            }
            dueTold(x, "25 above all", x.after(3, first, 9, first + 11), 1, 0, 1);
        }
    }

    /** Promise 25: "purses beyond -40 .. 40" are BAD, those within that cannot be come to have no chance. */
    private static void afterFarAway() {
        TwoGames x = oneOfAll();
        for (int first : new int[] {-20, 0, 20}) {
            for (int then : new int[] {-40, -39, 39, 40}) {
                dueTold(x, "25 from " + first + " to " + then, x.after(3, first, 9, then), 1, 0, 1);
            }
        }
    }

    /** Terms 1: the rest is that of the purse at each turn, "perhaps below 0", not of the first one. */
    private static void afterOverRests() {
        int[] odds = {1, 5, 10};
        for (int m = 1; m <= 3; m++) {
            for (int purse = -20; purse <= 20; purse++) {
                TwoGames x = new TwoGames();
                x.rested(odds[0], odds[1], odds[2]);
                x.row(0, 1);
                x.rest(m);
                long won = 1, lost = 1, by = 1;
                for (int n = 1; n <= 9; n++) {
                    won *= odds[Math.floorMod(purse + n - 1, m)];
                    lost *= 12 - odds[Math.floorMod(purse - n + 1, m)];
                    by *= 12;
                    dueShare(x, "25 all won from " + purse, x.after(0, purse, n, purse + n), won, by);
                    dueShare(x, "25 all lost from " + purse, x.after(0, purse, n, purse - n), lost, by);
                }
            }
        }
    }

    /** A fraction told, but for its lowest terms. */
    private static void dueShare(TwoGames x, String call, int got, long upper, long lower) {
        due(call, got, 1);
        due(call + " told", x.upper() * (lower / x.lower()), upper);
        due(call + " by", lower % x.lower(), 0);
    }

    /** Promise 26: "BAD", by the bounds of Terms 3. */
    private static void meanAfterNumbers() {
        for (int m = 1; m <= 3; m++) {
            Supplier<TwoGames> by = oneOfAllBy(m);
            dueBounds(by, "26 meanAfter r", 0, 3, (x, v) -> x.meanAfter(v, 0, 1));
            dueBounds(by, "26 meanAfter purse", -20, 20, (x, v) -> x.meanAfter(0, v, 1));
            dueBounds(by, "26 meanAfter n", 0, 9, (x, v) -> x.meanAfter(0, 0, v));
        }
    }

    private static void meanAfterAtTheBounds() {
        TwoGames x = new TwoGames();
        x.play();
        x.flat(0);
        x.flat(6);
        x.flat(1);
        lay(x, 0, 0);
        lay(x, 1, 1);
        lay(x, 2, 2);
        lay(x, 3, 3);
        for (int n = 0; n <= 9; n++) {
            dueTold(x, "26 won " + n, x.meanAfter(0, 20, n), 1, 20 + n, 1);
            dueTold(x, "26 lost " + n, x.meanAfter(1, -20, n), 1, -20 - n, 1);
            dueTold(x, "26 even " + n, x.meanAfter(2, 0, n), 1, 0, 1);
        }
        dueTold(x, "26 nine rare wins from -20", x.meanAfter(3, -20, 9), 1, -55, 2);
        dueTold(x, "26 nine rare wins from 20", x.meanAfter(3, 20, 9), 1, 25, 2);
    }

    /** Promise 27: "BAD: the PLAY, purses (-20 .. 20". */
    private static void endsNumbers() {
        dueBadOutside(ALL, "27 ends play", 0, 3, (x, v) -> x.ends(v, 0, 1, 2));
        dueTaken(ALL, "27 ends play", 1, 3, (x, v) -> x.ends(v, 0, 1, 2));
        dueTaken(ALL, "27 ends lo", -20, -20, (x, v) -> x.ends(3, v, -19, -18));
        dueTaken(ALL, "27 ends hi", 20, 20, (x, v) -> x.ends(3, 18, 19, v));
        for (int v : new int[] {-21, MIN}) {
            dueStill(ALL, "27 ends lo " + v, BAD, x -> x.ends(3, v, -20, -19));
            dueStill(ALL, "27 ends lo and purse " + v, BAD, x -> x.ends(3, v, v + 1, -18));
            dueStill(ALL, "27 ends all below", BAD, x -> x.ends(3, v, v + 1, v + 2));
        }
        for (int v : new int[] {21, MAX}) {
            dueStill(ALL, "27 ends hi " + v, BAD, x -> x.ends(3, 19, 20, v));
            dueStill(ALL, "27 ends purse and hi " + v, BAD, x -> x.ends(3, 18, v - 1, v));
            dueStill(ALL, "27 ends all above", BAD, x -> x.ends(3, v - 2, v - 1, v));
        }
        dueStill(ALL, "27 ends that wrap", BAD, x -> x.ends(3, MIN, 0, MAX));
        dueStill(ALL, "27 ends that wrap, turned", BAD, x -> x.ends(3, MAX, 0, MIN));
    }

    /** Promise 27: "lo below purse below hi". */
    private static void endsPursesInOrder() {
        for (int purse : new int[] {-19, -1, 0, 1, 19}) {
            dueTaken(ALL, "27 ends next to " + purse, 1, 1, (x, v) -> x.ends(3, purse - v, purse, purse + v));
            for (int lo = purse - 1; lo <= purse + 1; lo++) {
                for (int hi = purse - 1; hi <= purse + 1; hi++) {
                    int below = lo, above = hi;
                    if (lo >= purse || hi <= purse) {
                        String call = "27 ends(3, " + lo + ", " + purse + ", " + hi + ")";
                        dueStill(ALL, call, BAD, x -> x.ends(3, below, purse, above));
                    }
                }
            }
        }
        dueStill(ALL, "27 ends, purse MIN", BAD, x -> x.ends(3, 0, MIN, 2));
        dueStill(ALL, "27 ends, purse MAX", BAD, x -> x.ends(3, 0, MAX, 2));
    }

    /** Promise 27: "hi less lo at most 9". */
    private static void endsNineApart() {
        for (int lo = -20; lo <= 11; lo++) {
            int below = lo;
            TwoGames x = new TwoGames();
            x.flat(6);
            for (int purse = lo + 1; purse < lo + 9; purse++) {
                int steps = purse - lo;
                due("27 ends nine apart", x.ends(0, lo, purse, lo + 9), 1);
                due("27 ends nine apart told", x.upper() * 9, steps * x.lower());
            }
            if (lo <= 10) {
                dueStill(ALL, "27 ends ten apart, low", BAD, y -> y.ends(3, below, below + 1, below + 10));
                dueStill(ALL, "27 ends ten apart, high", BAD, y -> y.ends(3, below, below + 9, below + 10));
            }
        }
        dueStill(ALL, "27 ends forty apart", BAD, x -> x.ends(3, -20, 0, 20));
    }

    /** Terms: BAD is ahead of FINDING. */
    private static void endsBadAheadOfUnlike() {
        for (int p = 0; p <= 2; p += 2) {
            int unlike = p;
            dueStill(ALL, "27 BAD lo ahead of UNLIKE", BAD, x -> x.ends(unlike, -21, -20, -19));
            dueStill(ALL, "27 BAD hi ahead of UNLIKE", BAD, x -> x.ends(unlike, 19, 20, 21));
            dueStill(ALL, "27 BAD purse ahead of UNLIKE", BAD, x -> x.ends(unlike, 0, 0, 2));
            dueStill(ALL, "27 BAD width ahead of UNLIKE", BAD, x -> x.ends(unlike, 0, 1, 10));
        }
    }

    /** Promise 27: "UNLIKE: neither RESTED nor FLAT". */
    private static void endsUnlike() {
        dueFound(ALL, "27 ends of KIND 0", UNLIKE, x -> x.ends(0, 0, 1, 2));
        dueFound(ALL, "27 ends of an ECHO", UNLIKE, x -> x.ends(2, 0, 1, 2));
        dueFound(ALL, "27 ends of an ECHO, nine apart", UNLIKE, x -> x.ends(2, -20, -19, -11));
    }

    /**
     * Terms 3: "STATE, if there is a purse between them from which it goes on for ever": one that goes
     * up surely below one that goes down surely, wherever the purse stands that is asked for.
     */
    private static void endsForEver() {
        int[] odds = {0, 6, 12};
        for (int code = 0; code < 27; code++) {
            int[] wins = {odds[code % 3], odds[code / 3 % 3], odds[code / 9]};
            for (int m = 1; m <= 3; m++) {
                for (int lo = -20; lo <= -18; lo++) {
                    endsFrom(wins, m, lo);
                    endsFrom(wins, m, lo + 29);
                }
            }
        }
    }

    private static void endsFrom(int[] wins, int m, int lo) {
        TwoGames x = new TwoGames();
        x.rested(wins[0], wins[1], wins[2]);
        x.rest(m);
        for (int hi = lo + 2; hi <= lo + 9 && hi <= 20; hi++) {
            boolean forEver = false;
            for (int up = lo + 1; up < hi; up++) {
                for (int down = up + 1; down < hi; down++) {
                    forEver |= wins[Math.floorMod(up, m)] == 12 && wins[Math.floorMod(down, m)] == 0;
                }
            }
            for (int purse = lo + 1; purse < hi; purse++) {
                String call = "27 ends(0, " + lo + ", " + purse + ", " + hi + ") of " + wins[0] + " " + wins[1]
                    + " " + wins[2] + " by " + m;
                due(call, x.ends(0, lo, purse, hi), forEver ? STATE : 1);
            }
        }
    }

    /** Terms 3: "a purse between them": what would be done at lo or hi, or beyond, does not count. */
    private static void endsForEverOutside() {
        TwoGames x = new TwoGames();
        x.rested(12, 0, 6);
        dueTold(x, "27 up at lo, down above it", x.ends(0, 0, 1, 3), 1, 0, 1);
        dueTold(x, "27 up below hi, down at it", x.ends(0, -2, 0, 1), 1, 1, 1);
        dueTold(x, "27 up below lo", x.ends(0, 1, 2, 3), 1, 1, 2);
        due("27 up and down between", x.ends(0, -1, 0, 2), STATE);
        due("27 up and down between, not reached", x.ends(0, -2, -1, 2), STATE);
        TwoGames y = new TwoGames();
        y.rested(0, 12, 6);
        due("27 up and down between, left downward", y.ends(0, -1, 0, 4), STATE);
    }

    /** Promise 27: "(STATE behind UNLIKE.)", and behind BAD; it changes nothing. */
    private static void endsStateBehindOthers() {
        Supplier<TwoGames> circles = () -> {
            TwoGames x = oneOfAll();
            x.rested(12, 0, 0);
            x.echo(12, 0, 0, 12);
            return x;
        };
        dueStill(circles, "27 STATE", STATE, x -> x.ends(4, -1, 0, 2));
        dueStill(circles, "27 STATE, nine apart", STATE, x -> x.ends(4, -1, 7, 8));
        dueFound(circles, "27 UNLIKE ahead of STATE", UNLIKE, x -> x.ends(5, -1, 0, 2));
        dueStill(circles, "27 BAD width ahead of STATE", BAD, x -> x.ends(4, -1, 0, 9));
        dueStill(circles, "27 BAD purse ahead of STATE", BAD, x -> x.ends(4, -1, 2, 2));
        dueStill(circles, "27 BAD hi ahead of STATE", BAD, x -> x.ends(4, 17, 18, 21));
    }

    private static void endsNeverAndAlways() {
        TwoGames x = new TwoGames();
        x.flat(0);
        x.flat(12);
        x.rested(0, 6, 12);
        for (int lo : new int[] {-20, 0, 11}) {
            dueTold(x, "27 never", x.ends(0, lo, lo + 8, lo + 9), 1, 0, 1);
            dueTold(x, "27 always", x.ends(1, lo, lo + 1, lo + 9), 1, 1, 1);
        }
        dueTold(x, "27 down apart from up", x.ends(2, -1, 0, 3), 1, 0, 1);
        dueTold(x, "27 between down and up", x.ends(2, -1, 1, 3), 1, 1, 2);
        dueTold(x, "27 up apart from down", x.ends(2, -1, 2, 3), 1, 1, 1);
    }

    /** Promise 28: "many of them, 1 to 12", "(0 to 3)", "BAD". */
    private static void runNumbers() {
        dueBadOutside(ALL, "28 run play", 0, 3, (x, v) -> x.run(v, 0, 1, 0));
        dueBounds(ALL, "28 run before", 0, 3, (x, v) -> x.run(2, v, 1, 0));
        dueBounds(ALL, "28 run many", 1, 12, (x, v) -> x.run(2, 0, v, 0));
        dueBounds(ALL, "28 run many of won ones", 1, 12, (x, v) -> x.run(2, 0, v, 1));
        for (int many : new int[] {-31, 31, 32, 33, 44, 64}) {
            dueStill(ALL, "28 run many " + many, BAD, x -> x.run(2, 0, many, 0));
            dueStill(ALL, "28 run many " + many + ", won", BAD, x -> x.run(2, 0, many, 1));
        }
    }

    /** Promise 28: "ends (bits, the first is bit 0; many of them": no bit beyond. */
    private static void runEnds() {
        for (int m = 1; m <= 12; m++) {
            int many = m;
            dueBounds(ALL, "28 run ends of " + m, 0, (1 << m) - 1, (x, v) -> x.run(2, 1, many, v));
        }
    }

    private static void runBadAheadOfUnlike() {
        for (int p : new int[] {0, 1, 3}) {
            dueBadOutside(ALL, "28 BAD before ahead of UNLIKE", 0, 3, (x, v) -> x.run(p, v, 1, 0));
            dueBadOutside(ALL, "28 BAD many ahead of UNLIKE", 1, 12, (x, v) -> x.run(p, 0, v, 0));
            dueBadOutside(ALL, "28 BAD ends ahead of UNLIKE", 0, 7, (x, v) -> x.run(p, 0, 3, v));
        }
    }

    /** Promise 28: "UNLIKE": it is no ECHO. */
    private static void runUnlike() {
        for (int p : new int[] {0, 1, 3}) {
            dueFound(ALL, "28 run of " + p, UNLIKE, x -> x.run(p, 0, 1, 0));
            dueFound(ALL, "28 run of " + p + ", all won", UNLIKE, x -> x.run(p, 3, 12, 4095));
        }
    }

    /** Terms 1: "lost lost (0), lost won (1), won lost (2), won won (3) (..; the last end is told last)". */
    private static void runBehindTwoEnds() {
        int[] odds = {1, 5, 7, 10};
        TwoGames x = new TwoGames();
        x.echo(odds[0], odds[1], odds[2], odds[3]);
        for (int before = 0; before < 4; before++) {
            for (int ends = 0; ends < 8; ends++) {
                int[] all = {before / 2, before % 2, ends % 2, ends / 2 % 2, ends / 4};
                int chance = 1;
                for (int k = 2; k < 5; k++) {
                    int win = odds[2 * all[k - 2] + all[k - 1]];
                    chance *= all[k] == 1 ? win : 12 - win;
                }
                String call = "28 run(0, " + before + ", 3, " + ends + ")";
                due(call, x.run(0, before, 3, ends), 1);
                due(call + " told", x.upper() * 1728, chance * x.lower());
            }
        }
    }

    /** Promise 28: the longest runs, in lowest terms: the greatest lower number that can be told. */
    private static void runOfTwelve() {
        TwoGames x = new TwoGames();
        x.echo(1, 1, 1, 1);
        x.echo(12, 12, 12, 12);
        dueTold(x, "28 twelve rare wins", x.run(0, 0, 12, 4095), 1, 1, 8916100448256L);
        dueTold(x, "28 twelve losses", x.run(0, 3, 12, 0), 1, 3138428376721L, 8916100448256L);
        dueTold(x, "28 the last one won", x.run(0, 3, 12, 2048), 1, 285311670611L, 8916100448256L);
        dueTold(x, "28 sure wins", x.run(1, 0, 12, 4095), 1, 1, 1);
        for (int k = 0; k < 12; k++) {
            dueTold(x, "28 one loss among sure wins, " + k, x.run(1, 0, 12, 4095 - (1 << k)), 1, 0, 1);
        }
    }
}
