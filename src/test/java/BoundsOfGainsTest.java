import java.util.function.Supplier;

/** The sentences of Terms 2 and of promises 16 to 24 that name a bound, each with a test of its own. */
public final class BoundsOfGainsTest extends Check {
    private static final Supplier<TwoGames> ALL = Check::oneOfAll;

    public static void main(String[] args) {
        rowsOfGains();
        restsOfLeadsAndShare();
        rowNothing();
        rowNotFit();
        rowBecomesFit();
        rowOfOneAndOfFour();
        leadsNeedsNoSettling();
        leadsNeverAndAlways();
        settlesByOne();
        settlesByTwo();
        settlesByThree();
        shareOfARestLeftForEver();
        stateBehindFindings();
        stateBehindBad();
        gainBelowAtAbove();
        gainIsOfATurn();
        lotNumbers();
        lotUnlike();
        lotFirstAndLastPart();
        middleNumbers();
        middleFirstAndLast();
        end("BoundsOfGainsTest");
    }

    /** Promises 16 to 18: "BAD" for a ROW that is none. */
    private static void rowsOfGains() {
        dueBounds(ALL, "16 leads", 0, 3, (x, v) -> x.leads(v, 0, 0));
        dueBounds(ALL, "17 share", 0, 3, (x, v) -> x.share(v, 0));
        dueBounds(ALL, "18 gain", 0, 3, (x, v) -> x.gain(v));
    }

    /** Terms 1: "(0 .. m - 1)"; promises 16, 17: "BAD", ahead of NOTHING and UNLIKE. */
    private static void restsOfLeadsAndShare() {
        for (int m = 1; m <= 3; m++) {
            Supplier<TwoGames> by = byWithOddRow(m);
            dueBounds(by, "16 leads from, by " + m, 0, m - 1, (x, v) -> x.leads(0, v, 0));
            dueBounds(by, "16 leads to, by " + m, 0, m - 1, (x, v) -> x.leads(0, 0, v));
            dueBounds(by, "17 share, by " + m, 0, m - 1, (x, v) -> x.share(0, v));
            for (int r = 1; r <= 2; r++) {
                int unfit = r;
                dueBadOutside(by, "16 BAD from ahead, row " + r, 0, m - 1, (x, v) -> x.leads(unfit, v, 0));
                dueBadOutside(by, "16 BAD to ahead, row " + r, 0, m - 1, (x, v) -> x.leads(unfit, 0, v));
                dueBadOutside(by, "17 BAD ahead, row " + r, 0, m - 1, (x, v) -> x.share(unfit, v));
            }
        }
    }

    /** Row 0 is of one RESTED play, so that it settles by any m. */
    private static Supplier<TwoGames> byWithOddRow(int m) {
        return () -> {
            TwoGames x = oneOfAllBy(m).get();
            lay(x, 0, 1);
            return x;
        };
    }

    /** The calls that want a FIT row, on row 2. */
    private static Call[] wantFit() {
        return new Call[] {x -> x.leads(2, 0, 0), x -> x.share(2, 0), x -> x.gain(2), x -> x.after(2, 0, 1, 1),
            x -> x.meanAfter(2, 0, 1)};
    }

    private static Supplier<TwoGames> withRow(int... places) {
        return () -> {
            TwoGames x = oneOfAll();
            lay(x, 2, places);
            x.mean(0);
            return x;
        };
    }

    /** Promises 16, 17, 18, 25, 26: "NOTHING". */
    private static void rowNothing() {
        Call[] calls = wantFit();
        for (int c = 0; c < calls.length; c++) {
            dueFound(ALL, "NOTHING, call " + c, NOTHING, calls[c]);
        }
    }

    /** Terms 1: "FIT, if it is not empty, all in it are numbers of PLAYS, and none is an ECHO": UNLIKE. */
    private static void rowNotFit() {
        Call[] calls = wantFit();
        for (int c = 0; c < calls.length; c++) {
            dueFound(withRow(), "UNLIKE of an empty row, call " + c, UNLIKE, calls[c]);
            for (int unfit : new int[] {-1, 4, 2, 8, MIN, MAX}) {
                for (int n = 1; n <= 4; n++) {
                    for (int i = 0; i < n; i++) {
                        int[] places = new int[n];
                        places[i] = unfit;
                        String call = "UNLIKE of " + unfit + " at " + i + " of " + n + ", call " + c;
                        dueFound(withRow(places), call, UNLIKE, calls[c]);
                    }
                }
            }
        }
    }

    /** A number of no PLAY becomes one with the next PLAY. */
    private static void rowBecomesFit() {
        for (int many = 0; many < 8; many++) {
            TwoGames x = new TwoGames();
            for (int p = 0; p < many; p++) {
                x.play();
            }
            lay(x, 0, many);
            dueFinding(x, "18 gain ahead of play " + many, UNLIKE, x.gain(0));
            x.flat(5);
            dueTold(x, "18 gain with play " + many, x.gain(0), 2, -1, 6);
        }
    }

    /** Terms 1: "rows of 0 to 4 ints": the shortest FIT row and the longest. */
    private static void rowOfOneAndOfFour() {
        for (int n = 1; n <= 4; n++) {
            TwoGames x = new TwoGames();
            x.flat(0);
            x.row(0, n);
            dueTold(x, "16 leads of " + n, x.leads(0, 0, Math.floorMod(-n, 3)), 1, 1, 1);
            x.rest(1);
            dueTold(x, "18 gain of " + n, x.gain(0), 2, -1, 1);
            dueTold(x, "17 share of " + n, x.share(0, 0), 1, 1, 1);
        }
    }

    /** Promise 16 knows no STATE. */
    private static void leadsNeedsNoSettling() {
        TwoGames x = new TwoGames();
        x.play();
        x.row(0, 3);
        due("18 three plays by 3", x.gain(0), STATE);
        for (int from = 0; from < 3; from++) {
            for (int to = 0; to < 3; to++) {
                dueTold(x, "16 leads " + from + " " + to, x.leads(0, from, to), 1, from == to ? 1 : 0, 1);
            }
        }
    }

    /** Terms: "in lowest terms, the lower number above 0 (0 by 1)". */
    private static void leadsNeverAndAlways() {
        TwoGames x = new TwoGames();
        x.rested(12, 0, 8);
        x.row(0, 1);
        int[][] upper = {{0, 1, 0}, {1, 0, 0}, {2, 1, 0}};
        for (int from = 0; from < 3; from++) {
            for (int to = 0; to < 3; to++) {
                int lower = from == 2 && to < 2 ? 3 : 1;
                dueTold(x, "16 leads " + from + " " + to, x.leads(0, from, to), 1, upper[from][to], lower);
            }
        }
    }

    /** Row 0 by m; a fraction is told and a finding found, so that a change of these can be seen. */
    private static TwoGames rowBy(int m, int... places) {
        TwoGames x = new TwoGames();
        x.play();
        x.flat(0);
        x.rested(12, 0, 0);
        x.rested(3, 6, 9);
        x.rest(m);
        lay(x, 0, places);
        x.lot(0, 1, 1);
        x.mean(0);
        return x;
    }

    private static void dueShares(String call, TwoGames x, int[] upper, int lower) {
        for (int rest = 0; rest < upper.length; rest++) {
            due(call + " share " + rest, x.share(0, rest), 1);
            due(call + " share " + rest + " told", x.upper() * lower, upper[rest] * x.lower());
        }
    }

    /** Terms 2: "if one row of shares alone .. stays as it is": there is but one rest by 1. */
    private static void settlesByOne() {
        int[][] rows = {{0}, {1}, {0, 1}, {2, 3}, {0, 0, 0}, {0, 1, 0, 1}};
        for (int[] row : rows) {
            TwoGames x = rowBy(1, row);
            dueTold(x, "17 share by 1", x.share(0, 0), 1, 1, 1);
        }
        due("18 even by 1", rowBy(1, 0, 1).gain(0), 0);
    }

    /** By 2 each turn changes the rest: rows of an odd length settle, those of an even one do not. */
    private static void settlesByTwo() {
        int[][] rows = {{0}, {3}, {3, 0}, {2, 1}, {3, 3, 3}, {0, 1, 2}, {3, 3, 3, 3}, {0, 1, 2, 3}};
        for (int[] row : rows) {
            Supplier<TwoGames> by2 = () -> rowBy(2, row);
            if (row.length % 2 == 1) {
                dueShares("17 by 2 of " + row.length, by2.get(), new int[] {1, 1}, 2);
            } else {
                dueStill(by2, "17 share by 2 of " + row.length, STATE, x -> x.share(0, 0));
                dueStill(by2, "17 share by 2 of " + row.length, STATE, x -> x.share(0, 1));
                dueStill(by2, "18 gain by 2 of " + row.length, STATE, x -> x.gain(0));
            }
        }
    }

    /** By 3: no closed rest or one alone settles; two and three closed ones do not. */
    private static void settlesByThree() {
        int[][] never = {{0, 1}, {1, 0}, {0, 0, 0}, {1, 1, 1}, {0, 1, 0, 1}, {2, 0}};
        for (int[] row : never) {
            Supplier<TwoGames> by3 = () -> rowBy(3, row);
            for (int rest = 0; rest < 3; rest++) {
                int asked = rest;
                dueStill(by3, "17 share by 3 of " + row.length, STATE, x -> x.share(0, asked));
            }
            dueStill(by3, "18 gain by 3 of " + row.length, STATE, x -> x.gain(0));
        }
        int[][] ever = {{0}, {1}, {0, 0}, {1, 1}, {0, 0, 0, 0}, {0, 0, 0, 1}};
        for (int[] row : ever) {
            dueShares("17 circle by 3 of " + row.length, rowBy(3, row), new int[] {1, 1, 1}, 3);
        }
    }

    /** Terms 2: shares are "none below 0, 1 together": 0 by 1 is one. */
    private static void shareOfARestLeftForEver() {
        TwoGames x = rowBy(3, 2);
        dueTold(x, "17 share in a circle", x.share(0, 0), 1, 1, 2);
        dueTold(x, "17 share in a circle", x.share(0, 1), 1, 1, 2);
        dueTold(x, "17 share left for ever", x.share(0, 2), 1, 0, 1);
        x = rowBy(3, 2, 2);
        due("17 two closed rests", x.share(0, 0), STATE);
        x = rowBy(3, 2, 1);
        dueTold(x, "17 one closed rest", x.share(0, 0), 1, 1, 1);
        dueTold(x, "17 one closed rest, another", x.share(0, 1), 1, 0, 1);
        dueTold(x, "17 one closed rest, a third", x.share(0, 2), 1, 0, 1);
    }

    /** Promises 17, 18: "(STATE behind these.)": a row that is not FIT, and of an even length by 2. */
    private static void stateBehindFindings() {
        Supplier<TwoGames> echoInPair = () -> rowWithEcho(0, 4);
        dueFound(echoInPair, "17 UNLIKE ahead of STATE", UNLIKE, x -> x.share(0, 0));
        dueFound(echoInPair, "18 UNLIKE ahead of STATE", UNLIKE, x -> x.gain(0));
        dueFound(() -> rowWithEcho(), "17 UNLIKE of none ahead of STATE", UNLIKE, x -> x.share(0, 0));
        dueFound(() -> rowWithEcho(), "18 UNLIKE of none ahead of STATE", UNLIKE, x -> x.gain(0));
        dueFound(echoInPair, "17 NOTHING ahead of STATE", NOTHING, x -> x.share(1, 0));
        dueFound(echoInPair, "18 NOTHING ahead of STATE", NOTHING, x -> x.gain(1));
    }

    private static TwoGames rowWithEcho(int... places) {
        TwoGames x = rowBy(2, places);
        x.echo(6, 6, 6, 6);
        return x;
    }

    private static void stateBehindBad() {
        for (int m = 2; m <= 3; m++) {
            int by = m;
            Supplier<TwoGames> never = () -> rowBy(by, 0, 1);
            due("17 it does not settle by " + m, never.get().share(0, 0), STATE);
            dueBadOutside(never, "17 BAD rest ahead of STATE", 0, m - 1, (x, v) -> x.share(0, v));
            dueBadOutside(never, "17 BAD row ahead of STATE", 0, 3, (x, v) -> x.share(v, 0));
            dueBadOutside(never, "18 BAD row ahead of STATE", 0, 3, (x, v) -> x.gain(v));
        }
    }

    /** Terms 2: "It LOSES, is EVEN, WINS: GAIN below, at, above 0", "(-1 .. 1)"; promise 18: "1 .., 0 .., 2". */
    private static void gainBelowAtAbove() {
        for (int m = 1; m <= 3; m++) {
            TwoGames x = new TwoGames();
            x.rest(m);
            x.rested(6, 6, 6);
            x.row(0, 1);
            for (int a : new int[] {0, 5, 6, 7, 12}) {
                for (int i = 0; i < 3; i++) {
                    x.change(0, i, a);
                }
                int want = a > 6 ? 1 : a == 6 ? 0 : 2;
                int[] upper = {-1, 0, 0, 0, 0, -1, 0, 1, 0, 0, 0, 0, 1};
                int lower = a == 5 || a == 7 ? 6 : 1;
                dueTold(x, "18 gain of " + a + " by " + m, x.gain(0), want, upper[a], lower);
            }
        }
        TwoGames x = new TwoGames();
        x.rested(6, 6, 7);
        x.rested(6, 6, 5);
        x.rested(3, 8, 7);
        int[] want = {1, 2, 2};
        for (int p = 0; p < 3; p++) {
            lay(x, 0, p);
            due("18 gain of one more or less, " + p, x.gain(0), want[p]);
        }
    }

    /** Terms 2: "what the purse gains on the mean in a turn", not in a round. */
    private static void gainIsOfATurn() {
        for (int n = 1; n <= 4; n++) {
            TwoGames x = new TwoGames();
            x.rest(1);
            x.flat(7);
            x.play();
            x.row(0, n);
            dueTold(x, "18 gain in a turn of " + n, x.gain(0), 1, 1, 6);
            x.lay(0, n - 1, 1);
            due("18 gain with a sure win, " + n, x.gain(0), 1);
            due("18 gain with a sure win, told " + n, x.upper() * 6 * n, (n + 5) * x.lower());
        }
    }

    /** Terms 2: "u (0 .. 12)"; promise 19: "BAD". */
    private static void lotNumbers() {
        dueBounds(ALL, "19 lot u", 0, 12, (x, v) -> x.lot(1, 3, v));
        dueBounds(ALL, "19 lot one", 0, 3, (x, v) -> x.lot(v, 3, 5));
        dueBounds(ALL, "19 lot other", 0, 3, (x, v) -> x.lot(3, v, 5));
    }

    /** Promise 19: "UNLIKE: an ECHO", behind BAD. */
    private static void lotUnlike() {
        dueFound(ALL, "19 lot of an ECHO first", UNLIKE, x -> x.lot(2, 1, 0));
        dueFound(ALL, "19 lot of an ECHO behind", UNLIKE, x -> x.lot(1, 2, 12));
        dueFound(ALL, "19 lot of one ECHO", UNLIKE, x -> x.lot(2, 2, 6));
        dueFound(oneOfAllBy(2), "19 lot of an ECHO by 2", UNLIKE, x -> x.lot(0, 2, 6));
        dueBadOutside(ALL, "19 BAD u ahead of UNLIKE", 0, 12, (x, v) -> x.lot(2, 2, v));
        dueBadOutside(ALL, "19 BAD other ahead of UNLIKE", 0, 3, (x, v) -> x.lot(2, v, 6));
        dueBadOutside(ALL, "19 BAD one ahead of UNLIKE", 0, 3, (x, v) -> x.lot(v, 2, 6));
    }

    /** Terms 2: "the first one is played with the chance u by 12, else the other one". */
    private static void lotFirstAndLastPart() {
        for (int m = 1; m <= 3; m++) {
            TwoGames x = new TwoGames();
            x.rest(m);
            x.play();
            x.flat(0);
            int[] upper = {-1, -5, -2, -1, -1, -1, 0, 1, 1, 1, 2, 5, 1};
            int[] lower = {1, 6, 3, 2, 3, 6, 1, 6, 3, 2, 3, 6, 1};
            for (int u = 0; u <= 12; u++) {
                int want = u > 6 ? 1 : u == 6 ? 0 : 2;
                dueTold(x, "19 lot " + u + " by " + m, x.lot(0, 1, u), want, upper[u], lower[u]);
                dueTold(x, "19 lot of one, " + u, x.lot(1, 1, u), 2, -1, 1);
            }
        }
    }

    /** Promise 20: "BAD; UNLIKE." */
    private static void middleNumbers() {
        dueBadOutside(ALL, "20 middle one", 0, 3, (x, v) -> x.middle(v, 0));
        dueBadOutside(ALL, "20 middle other", 0, 3, (x, v) -> x.middle(0, v));
        dueTaken(ALL, "20 middle one", 0, 3, (x, v) -> x.middle(v, 0));
        dueStill(ALL, "20 middle of the first one", 0, x -> x.middle(0, 0));
        dueStill(ALL, "20 middle of the last one", NONE, x -> x.middle(3, 3));
        dueFound(ALL, "20 middle of an ECHO first", UNLIKE, x -> x.middle(2, 0));
        dueFound(ALL, "20 middle of an ECHO behind", UNLIKE, x -> x.middle(0, 2));
        dueFound(ALL, "20 middle of one ECHO", UNLIKE, x -> x.middle(2, 2));
        dueBadOutside(ALL, "20 BAD other ahead of UNLIKE", 0, 3, (x, v) -> x.middle(2, v));
        dueBadOutside(ALL, "20 BAD one ahead of UNLIKE", 0, 3, (x, v) -> x.middle(v, 2));
    }

    /** Terms 2: "the least u (0 .. 12) of two PLAYS with which the LOT WINS; NONE": EVEN is no WIN. */
    private static void middleFirstAndLast() {
        for (int m = 1; m <= 3; m++) {
            int by = m;
            Supplier<TwoGames> flats = () -> {
                TwoGames x = oneOfAllBy(by).get();
                x.flat(0);
                x.flat(6);
                x.flat(7);
                x.rested(7, 6, 6);
                return x;
            };
            dueStill(flats, "20 the other wins alone", 0, x -> x.middle(4, 6));
            dueStill(flats, "20 both win", 0, x -> x.middle(6, 0));
            dueStill(flats, "20 even, then a win", 1, x -> x.middle(6, 5));
            dueStill(flats, "20 half of sure wins is even", 7, x -> x.middle(0, 4));
            dueStill(flats, "20 11 by 12 of 7 wins", 11, x -> x.middle(6, 4));
            dueStill(flats, "20 even at the last part", NONE, x -> x.middle(5, 4));
            dueStill(flats, "20 even alone", NONE, x -> x.middle(5, 5));
        }
        TwoGames x = new TwoGames();
        x.rested(7, 6, 6);
        x.flat(0);
        due("20 only the first alone wins", x.middle(0, 1), 12);
    }
}
