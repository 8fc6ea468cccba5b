import java.util.Arrays;
import java.util.function.Supplier;

/** The sentences of promises 21 to 24, and of Terms 2 on the best ones, that name a bound. */
public final class BoundsOfBestTest extends Check {
    private static final Supplier<TwoGames> ALL = Check::oneOfAll;

    public static void main(String[] args) {
        bestRowNumbers();
        bestRowBadAheadOfState();
        bestRowWithoutPlays();
        bestRowThatNeverSettles();
        bestRowOfThoseThatSettle();
        bestRowOfEqualsIsTheFirst();
        bestRowOfGainsCloseTogether();
        bestRowOfEightPlays();
        bestRowComesToARow();
        bestRowTakesNoEcho();
        bestChoiceWithoutPlays();
        bestChoiceOfEqualsIsTheFirst();
        bestChoiceByEachM();
        bestChoiceOfEightPlays();
        eachSearchBeginsAnew();
        choiceOfNoRest();
        choiceBeforeAny();
        choiceOfTheLatest();
        paradoxesOfFew();
        paradoxesTellNothing();
        end("BoundsOfBestTest");
    }

    /** Terms 2: "a length n (1 .. 4)"; promise 21: "BAD". */
    private static void bestRowNumbers() {
        for (int m = 1; m <= 3; m += 2) {
            Supplier<TwoGames> by = oneOfAllBy(m);
            dueBounds(by, "21 bestRow n", 1, 4, (x, v) -> x.bestRow(v, 0));
            dueBounds(by, "21 bestRow to", 0, 3, (x, v) -> x.bestRow(2, v));
            dueBadOutside(by, "21 bestRow n to the last row", 1, 4, (x, v) -> x.bestRow(v, 3));
        }
    }

    /** Terms: BAD is ahead of STATE. */
    private static void bestRowBadAheadOfState() {
        dueBadOutside(TwoGames::new, "21 BAD n without plays", 1, 4, (x, v) -> x.bestRow(v, 0));
        dueBadOutside(TwoGames::new, "21 BAD to without plays", 0, 3, (x, v) -> x.bestRow(1, v));
        dueBadOutside(oneOfAllBy(2), "21 BAD to by 2", 0, 3, (x, v) -> x.bestRow(4, v));
    }

    /** Promise 21: "STATE: no row of PLAYS SETTLES": there is none. */
    private static void bestRowWithoutPlays() {
        for (int n = 1; n <= 4; n++) {
            int length = n;
            dueStill(TwoGames::new, "21 bestRow without plays, " + n, STATE, x -> x.bestRow(length, 0));
            dueStill(BoundsOfBestTest::echoes, "21 bestRow of echoes, " + n, STATE, x -> x.bestRow(length, 1));
        }
    }

    private static TwoGames echoes() {
        TwoGames x = new TwoGames();
        for (int p = 0; p < 8; p++) {
            x.echo(12, 12, 12, 5);
        }
        lay(x, 1, 5, 6, 7);
        x.run(0, 3, 1, 1);
        x.tear(0);
        return x;
    }

    /** Promise 21: "STATE: no row of PLAYS SETTLES": there are some, but none does. */
    private static void bestRowThatNeverSettles() {
        dueStill(oneOfAllBy(2), "21 bestRow 2 by 2", STATE, x -> x.bestRow(2, 0));
        dueStill(oneOfAllBy(2), "21 bestRow 4 by 2", STATE, x -> x.bestRow(4, 2));
        dueTaken(oneOfAllBy(2), "21 bestRow 1 and 3 by 2", 0, 1, (x, v) -> x.bestRow(1 + 2 * v, 2));
        Supplier<TwoGames> onlyWins = () -> {
            TwoGames x = new TwoGames();
            x.play();
            x.row(1, 2);
            x.lot(0, 0, 0);
            return x;
        };
        dueStill(onlyWins, "21 three wins by 3", STATE, x -> x.bestRow(3, 1));
        dueTaken(onlyWins, "21 two and four wins by 3", 0, 1, (x, v) -> x.bestRow(2 + 2 * v, 1));
    }

    /** Terms 2: "of all rows of n PLAYS that .. SETTLE": three sure wins gain most, but do not settle. */
    private static void bestRowOfThoseThatSettle() {
        TwoGames x = new TwoGames();
        x.play();
        x.flat(7);
        dueTold(x, "21 bestRow 3", x.bestRow(3, 0), 1, 13, 18);
        duePlaces(x, "21 bestRow 3", 0, 0, 0, 1);
        dueTold(x, "21 bestRow 4", x.bestRow(4, 0), 1, 1, 1);
        duePlaces(x, "21 bestRow 4", 0, 0, 0, 0, 0);
    }

    /** Terms 2: "of these the first (place by place by numbers)". */
    private static void bestRowOfEqualsIsTheFirst() {
        TwoGames x = new TwoGames();
        x.flat(5);
        x.rested(1, 9, 9);
        dueTold(x, "21 turned rows gain the same", x.bestRow(3, 0), 1, 20201, 2812122);
        duePlaces(x, "21 the first of them", 0, 0, 1, 1);
        TwoGames y = new TwoGames();
        y.rested(1, 9, 9);
        y.flat(5);
        dueTold(y, "21 the same, numbered otherwise", y.bestRow(3, 0), 1, 20201, 2812122);
        duePlaces(y, "21 the first of these", 0, 0, 0, 1);
        TwoGames z = new TwoGames();
        z.flat(3);
        z.flat(8);
        z.rested(8, 8, 8);
        for (int n = 1; n <= 4; n++) {
            dueTold(z, "21 equal plays, " + n, z.bestRow(n, 0), 1, 1, 3);
            int[] ones = {1, 1, 1, 1};
            duePlaces(z, "21 equal plays, " + n, 0, Arrays.copyOf(ones, n));
        }
    }

    /** Terms 2: "that with the greatest GAIN": of all RESTED plays these are the closest by 3. */
    private static void bestRowOfGainsCloseTogether() {
        dueBest(new int[] {11, 9, 7}, new int[] {7, 10, 10}, 85, 174);
        dueBest(new int[] {5, 2, 2}, new int[] {1, 3, 5}, -339, 694);
        dueBest(new int[] {10, 5, 3}, new int[] {2, 8, 9}, 3, 155);
        dueBest(new int[] {10, 4, 3}, new int[] {2, 7, 9}, -6, 311);
    }

    private static void dueBest(int[] less, int[] more, int upper, int lower) {
        for (int best = 0; best < 2; best++) {
            int[] first = best == 0 ? more : less;
            int[] other = best == 0 ? less : more;
            TwoGames x = new TwoGames();
            x.rested(first[0], first[1], first[2]);
            x.rested(other[0], other[1], other[2]);
            dueTold(x, "21 the greater of two close gains", x.bestRow(1, 0), 1, upper, lower);
            duePlaces(x, "21 the greater of two close gains", 0, best);
        }
    }

    /** Terms 1: "8 at most": all eight are tried, the first and the last too. */
    private static void bestRowOfEightPlays() {
        for (int best = 0; best < 8; best += 7) {
            TwoGames x = new TwoGames();
            for (int p = 0; p < 8; p++) {
                x.flat(p == best ? 9 : 4);
            }
            for (int n = 1; n <= 4; n++) {
                dueTold(x, "21 best of eight, " + n, x.bestRow(n, 3), 1, 1, 2);
                int[] want = {best, best, best, best};
                duePlaces(x, "21 best of eight, " + n, 3, Arrays.copyOf(want, n));
            }
        }
    }

    /** Promise 21: "THE BEST ROW of a length comes to a ROW", whatever was there. */
    private static void bestRowComesToARow() {
        for (int to = 0; to < 4; to++) {
            for (int n = 1; n <= 4; n++) {
                TwoGames x = oneOfAllBy(1).get();
                int there = x.count(2);
                dueTold(x, "21 bestRow(" + n + ", " + to + ")", x.bestRow(n, to), 1, 1, 1);
                due("21 rows there", x.count(2), to == 2 ? there + 1 : there);
                duePlaces(x, "21 bestRow(" + n + ", " + to + ")", to, new int[n]);
                dueFinding(x, "21 no place behind", BEYOND, x.lay(to, n, 0));
            }
        }
    }

    private static void bestRowTakesNoEcho() {
        TwoGames x = new TwoGames();
        x.echo(12, 12, 12, 12);
        x.flat(2);
        x.echo(12, 12, 12, 12);
        for (int n = 1; n <= 4; n++) {
            dueTold(x, "21 beside echoes, " + n, x.bestRow(n, 0), 1, -2, 3);
            int[] ones = {1, 1, 1, 1};
            duePlaces(x, "21 beside echoes, " + n, 0, Arrays.copyOf(ones, n));
        }
        dueTold(x, "22 beside echoes", x.bestChoice(), 1, -2, 3);
        for (int rest = 0; rest < 3; rest++) {
            due("23 beside echoes", x.choice(rest), 1);
        }
    }

    /** Promise 22: "STATE: none SETTLES." With any play that is no ECHO one does: each rest is left. */
    private static void bestChoiceWithoutPlays() {
        for (int m = 1; m <= 3; m++) {
            int by = m;
            dueStill(() -> restBy(new TwoGames(), by), "22 without plays by " + m, STATE, x -> x.bestChoice());
            dueStill(() -> restBy(echoes(), by), "22 of echoes by " + m, STATE, x -> x.bestChoice());
            TwoGames x = restBy(new TwoGames(), m);
            x.play();
            dueTold(x, "22 of one play by " + m, x.bestChoice(), 1, 1, 1);
        }
    }

    private static TwoGames restBy(TwoGames x, int m) {
        x.rest(m);
        return x;
    }

    private static void dueChoice(String call, TwoGames x, int... want) {
        for (int rest = 0; rest < 3; rest++) {
            due("23 " + call + ", rest " + rest, x.choice(rest), want[rest]);
        }
    }

    /** Terms 2: "of these the first (the PLAY for rest 0 counts first)". */
    private static void bestChoiceOfEqualsIsTheFirst() {
        TwoGames x = new TwoGames();
        x.flat(0);
        x.rested(12, 12, 0);
        dueTold(x, "22 three circles are even", x.bestChoice(), 1, 0, 1);
        dueChoice("the first circle", x, 0, 1, 0);
        TwoGames y = new TwoGames();
        y.flat(3);
        y.flat(8);
        y.rested(8, 8, 8);
        dueTold(y, "22 equal plays", y.bestChoice(), 1, 1, 3);
        dueChoice("equal plays", y, 1, 1, 1);
        TwoGames z = new TwoGames();
        z.rested(0, 0, 1);
        z.rested(0, 12, 0);
        z.rested(12, 0, 0);
        z.rest(2);
        dueTold(z, "22 each rest its own play", z.bestChoice(), 1, 1, 1);
        dueChoice("each rest its own play", z, 2, 1, NONE);
    }

    /** Terms 2: "for each rest one PLAY": by m there are m of them; the others are NONE. */
    private static void bestChoiceByEachM() {
        int[][] want = {{3, NONE, NONE}, {3, 2, NONE}, {3, 2, 1}};
        for (int m = 1; m <= 3; m++) {
            TwoGames x = new TwoGames();
            x.echo(12, 12, 12, 12);
            x.rested(0, 0, 12);
            x.rested(0, 12, 0);
            x.rested(12, 0, 0);
            x.rest(m);
            dueTold(x, "22 by " + m, x.bestChoice(), 1, 1, 1);
            dueChoice("by " + m, x, want[m - 1]);
        }
    }

    private static void bestChoiceOfEightPlays() {
        for (int best = 0; best < 8; best += 7) {
            TwoGames x = new TwoGames();
            for (int p = 0; p < 8; p++) {
                x.flat(p == best ? 9 : 4);
            }
            dueTold(x, "22 best of eight", x.bestChoice(), 1, 1, 2);
            dueChoice("best of eight", x, best, best, best);
        }
    }

    /** What a search found, or did not find, counts for no later one. */
    private static void eachSearchBeginsAnew() {
        TwoGames x = new TwoGames();
        x.flat(5);
        x.rested(1, 9, 9);
        dueTold(x, "21 the first search", x.bestRow(3, 0), 1, 20201, 2812122);
        dueTold(x, "22 behind it", x.bestChoice(), 1, 57, 218);
        dueChoice("behind a best row", x, 0, 1, 1);
        dueTold(x, "21 behind both", x.bestRow(1, 0), 1, -3, 202);
        duePlaces(x, "21 behind both", 0, 1);
        x.change(1, 1, 0);
        x.rest(2);
        due("21 nothing settles", x.bestRow(4, 0), STATE);
        dueTold(x, "22 behind STATE", x.bestChoice(), 1, -1, 6);
        dueChoice("behind STATE", x, 0, 0, NONE);
        due("21 nothing settles still", x.bestRow(2, 0), STATE);
        dueChoice("behind STATE of a row", x, 0, 0, NONE);
    }

    /** Promise 23: "for a rest; NONE: none such." It is never BAD, and nothing changes. */
    private static void choiceOfNoRest() {
        for (int rest : new int[] {-1, 3, MIN, MAX}) {
            dueStill(ALL, "23 choice(" + rest + ")", NONE, x -> x.choice(rest));
            dueStill(TwoGames::new, "23 new choice(" + rest + ")", NONE, x -> x.choice(rest));
        }
    }

    /** Promise 23: "the latest bestChoice() that was not refused": there was none. */
    private static void choiceBeforeAny() {
        dueChoice("before any", new TwoGames(), NONE, NONE, NONE);
        TwoGames x = echoes();
        due("22 refused", x.bestChoice(), STATE);
        dueChoice("behind a refused one", x, NONE, NONE, NONE);
        x.bestRow(1, 0);
        x.lot(0, 0, 0);
        dueChoice("behind other calls", x, NONE, NONE, NONE);
    }

    /** Promise 23: "The PLAY of the latest bestChoice()", whatever has come since. */
    private static void choiceOfTheLatest() {
        TwoGames x = new TwoGames();
        x.rested(4, 0, 4);
        x.rested(0, 4, 0);
        due("22 by 3", x.bestChoice(), 1);
        dueChoice("by 3", x, 0, 1, 0);
        x.play();
        x.rest(1);
        x.bestRow(4, 0);
        dueChoice("behind rest(1) and a better play", x, 0, 1, 0);
        due("22 by 1", x.bestChoice(), 1);
        dueChoice("by 1", x, 2, NONE, NONE);
        x.rest(3);
        dueChoice("behind rest(3)", x, 2, NONE, NONE);
        due("22 by 3 again", x.bestChoice(), 1);
        dueChoice("by 3 again", x, 2, 2, 2);
    }

    /** Promise 24: pairs need two PLAYS that LOSE, and none of two that lose wins by turns. */
    private static void paradoxesOfFew() {
        for (int m = 1; m <= 3; m++) {
            due("24 without plays by " + m, restBy(new TwoGames(), m).paradoxes(), 0);
            for (int a = 0; a <= 12; a++) {
                TwoGames x = restBy(new TwoGames(), m);
                x.flat(a);
                due("24 of one play by " + m, x.paradoxes(), 0);
                x.flat(12 - a);
                due("24 of two plays by " + m, x.paradoxes(), 0);
                x.play();
                x.echo(0, 0, 0, 0);
                x.rested(a, 9, 9);
                x.rested(1, 9, a);
                x.rested(12, 0, a);
                x.flat(0);
                due("24 of eight plays by " + m, x.paradoxes(), 0);
            }
        }
    }

    private static void paradoxesTellNothing() {
        for (int m = 1; m <= 3; m++) {
            dueStill(oneOfAllBy(m), "24 paradoxes by " + m, 0, x -> x.paradoxes());
        }
    }
}
