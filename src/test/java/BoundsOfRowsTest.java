import java.util.function.Supplier;

/** The sentences of promises 12 to 15 that name a bound, each with a test of its own. */
public final class BoundsOfRowsTest extends Check {
    private static final Supplier<TwoGames> ALL = Check::oneOfAll;

    public static void main(String[] args) {
        rowsAreNoughtToThree();
        rowHasUpToFourPlaces();
        rowSize();
        rowAnewIsAllNought();
        emptyRowIsThere();
        layPlaces();
        layAnyInt();
        layWraps();
        layNothing();
        tearOnce();
        copyTakesAndRefuses();
        copyOfNone();
        copyAsIfTakenAhead();
        copyBadRows();
        copySize();
        copyNothing();
        copyWraps();
        end("BoundsOfRowsTest");
    }

    /** Terms 1: "ROWS 0 .. 3"; promises 12 to 14: "BAD". */
    private static void rowsAreNoughtToThree() {
        dueBounds(ALL, "12 row", 0, 3, (x, v) -> x.row(v, 1));
        dueBounds(ALL, "13 lay", 0, 3, (x, v) -> x.lay(v, 0, 1));
        dueBounds(ALL, "14 tear", 0, 3, (x, v) -> x.tear(v));
        for (int r = 0; r < 4; r++) {
            TwoGames x = new TwoGames();
            x.row(r, 1);
            due("12 one row is there", x.count(2), 1);
            due("12 row " + r + " is that one", x.lay(r, 0, 1), 1000);
        }
    }

    /** Terms 1: "rows of 0 to 4 ints"; promise 12: "BAD: also n above 4". */
    private static void rowHasUpToFourPlaces() {
        for (int r = 0; r < 4; r++) {
            int row = r;
            for (int n = 0; n <= 4; n++) {
                due("12 row(" + r + ", " + n + ")", oneOfAll().row(r, n), n);
            }
            dueStill(ALL, "12 row(" + r + ", 5)", BAD, x -> x.row(row, 5));
            dueStill(ALL, "12 row(" + r + ", MAX)", BAD, x -> x.row(row, MAX));
        }
    }

    /** Promise 12: "SIZE", which is "fewer than none", behind BAD. */
    private static void rowSize() {
        for (int r = 0; r < 4; r++) {
            int row = r;
            dueFound(ALL, "12 row(" + r + ", -1)", SIZE, x -> x.row(row, -1));
            dueFound(ALL, "12 row(" + r + ", MIN)", SIZE, x -> x.row(row, MIN));
        }
        dueBadOutside(ALL, "12 BAD ahead of SIZE", 0, 3, (x, v) -> x.row(v, -1));
        dueBadOutside(ALL, "12 BAD twice", 0, 3, (x, v) -> x.row(v, 5));
    }

    /** Promise 12: "A ROW is there with n ints 0". */
    private static void rowAnewIsAllNought() {
        TwoGames x = new TwoGames();
        for (int n = 0; n <= 4; n++) {
            lay(x, 1, 7, 7, 7, 7);
            due("12 row anew", x.row(1, n), n);
            duePlaces(x, "12 row anew", 1, new int[n]);
            lay(x, 1, 7, 7, 7, 7);
            x.tear(1);
            x.row(1, n);
            duePlaces(x, "12 row anew behind tear", 1, new int[n]);
            due("12 one row is there", x.count(2), 1);
        }
        x.row(1, 0);
        x.row(1, 4);
        duePlaces(x, "12 row grown", 1, 0, 0, 0, 0);
    }

    /** Terms 1: "rows of 0 to 4 ints, or missing (at first)": an empty row is no missing one. */
    private static void emptyRowIsThere() {
        TwoGames x = new TwoGames();
        due("12 row(2, 0)", x.row(2, 0), 0);
        due("12 empty row counts", x.count(2), 1);
        due("12 empty row's digest", x.digest(), digestOf(3, -1, -1, 0, -1));
        dueFinding(x, "13 lay in an empty row", BEYOND, x.lay(2, 0, 0));
        due("14 tear of an empty row", x.tear(2), 1);
        due("14 torn row's digest", x.digest(), digestOf(3, -1, -1, -1, -1));
    }

    /** Promise 13: "BEYOND", which is "a place that there is not". */
    private static void layPlaces() {
        for (int n = 0; n <= 4; n++) {
            int size = n;
            Supplier<TwoGames> sized = () -> {
                TwoGames x = oneOfAll();
                x.row(2, size);
                return x;
            };
            dueBeyondOutside(sized, "13 lay in " + n, 0, n - 1, (x, v) -> x.lay(2, v, 5));
            for (int i = 0; i < n; i++) {
                TwoGames x = sized.get();
                int[] want = new int[n];
                want[i] = 5;
                due("13 lay in " + n + " at " + i, x.lay(2, i, 5), 1000);
                duePlaces(x, "13 laid in " + n + " at " + i, 2, want);
            }
        }
    }

    /** Terms 1: places are ints; promise 13 refuses no v. */
    private static void layAnyInt() {
        TwoGames x = new TwoGames();
        x.row(0, 1);
        for (int v : new int[] {MIN, -1, 0, 8, MAX}) {
            x.lay(0, 0, v);
            due("13 laid " + v, x.digest(), digestOf(3, 1, v, -1, -1, -1));
        }
        due("13 laid any int, finding", x.finding(), 0);
    }

    /** Promise 13: "what it was, and 1000 more (an int that wraps)". */
    private static void layWraps() {
        int[] was = {MAX - 1001, MAX - 1000, MAX - 999, MAX, MIN, -1000, -1001, -1003, -1004};
        int[] answer = {MAX - 1, MAX, MIN, MIN + 999, MIN + 1000, 0, -1, -3, -4};
        for (int k = 0; k < was.length; k++) {
            TwoGames x = oneOfAll();
            x.lay(0, 1, was[k]);
            int finding = x.finding();
            due("13 lay over " + was[k], x.lay(0, 1, 3), answer[k]);
            due("13 lay over " + was[k] + ", finding", x.finding(), finding);
            due("13 lay over " + was[k] + ", laid", x.lay(0, 1, 0), 1003);
        }
    }

    /** Promise 13: "BAD; NOTHING; BEYOND", one behind the other. */
    private static void layNothing() {
        for (int i : new int[] {0, -1, 4, MIN, MAX}) {
            dueFound(ALL, "13 lay in a missing row at " + i, NOTHING, x -> x.lay(2, i, 1));
            dueBadOutside(ALL, "13 BAD at " + i, 0, 3, (x, v) -> x.lay(v, i, 1));
        }
    }

    /** Promise 14: "A ROW is missing: 1. BAD; NOTHING." */
    private static void tearOnce() {
        dueFound(ALL, "14 tear of a missing row", NOTHING, x -> x.tear(2));
        for (int r = 0; r < 4; r++) {
            int row = r;
            Supplier<TwoGames> torn = () -> {
                TwoGames x = oneOfAll();
                x.tear(row);
                return x;
            };
            due("14 tear(" + r + ")", oneOfAll().tear(r), r == 2 ? FINDING : 1);
            due("14 rows there behind it", torn.get().count(2), r == 2 ? 3 : 2);
            dueFound(torn, "14 tear(" + r + ") again", NOTHING, x -> x.tear(row));
            dueFound(torn, "13 lay in torn " + r, NOTHING, x -> x.lay(row, 0, 0));
        }
    }

    private static TwoGames twoRows(int size, int other) {
        TwoGames x = new TwoGames();
        x.row(1, size);
        x.row(2, other);
        for (int k = 0; k < 4; k++) {
            x.lay(1, k, 10 + k);
            x.lay(2, k, 20 + k);
        }
        return x;
    }

    /** Promise 15: "n places of a ROW, from one on, come to those of another one .. BEYOND: not so many there". */
    private static void copyTakesAndRefuses() {
        for (int size = 0; size <= 4; size++) {
            for (int other = 0; other <= 4; other++) {
                for (int code = 0; code < 343; code++) {
                    oneCopy(size, other, code % 7 - 1, code / 7 % 7 - 1, code / 49 - 1);
                }
            }
        }
    }

    private static void oneCopy(int size, int other, int i, int j, int n) {
        TwoGames x = twoRows(size, other);
        int before = x.findings(BEYOND);
        int sizes = x.findings(SIZE);
        boolean holds = n >= 0 && i >= 0 && j >= 0 && i + n <= size && j + n <= other;
        String call = "15 copy(1, " + i + ", 2, " + j + ", " + n + ") of " + size + " and " + other;
        due(call, x.copy(1, i, 2, j, n), holds ? 1 : FINDING);
        due(call + " BEYOND", x.findings(BEYOND), before + (holds || n < 0 ? 0 : 1));
        due(call + " SIZE", x.findings(SIZE), sizes + (n < 0 ? 1 : 0));
        for (int k = 0; k < other; k++) {
            boolean come = holds && k >= j && k < j + n;
            due(call + " place " + k, x.lay(2, k, 0), 1000 + (come ? 10 + i + k - j : 20 + k));
        }
        for (int k = 0; k < size; k++) {
            due(call + " source " + k, x.lay(1, k, 0), 1010 + k);
        }
    }

    /** No places can be taken from just behind the last one, and from nowhere further. */
    private static void copyOfNone() {
        Supplier<TwoGames> rows = () -> twoRows(4, 3);
        dueStill(rows, "15 copy of none", 1, x -> x.copy(1, 0, 2, 0, 0));
        dueStill(rows, "15 copy of none from behind the last", 1, x -> x.copy(1, 4, 2, 3, 0));
        dueFound(rows, "15 copy of none from further", BEYOND, x -> x.copy(1, 5, 2, 3, 0));
        dueFound(rows, "15 copy of none to further", BEYOND, x -> x.copy(1, 4, 2, 4, 0));
        dueFound(rows, "15 copy of none from -1", BEYOND, x -> x.copy(1, -1, 2, 0, 0));
        dueFound(rows, "15 copy of none to -1", BEYOND, x -> x.copy(1, 0, 2, -1, 0));
        dueStill(() -> twoRows(0, 0), "15 copy of none of empty rows", 1, x -> x.copy(1, 0, 2, 0, 0));
    }

    /** Promise 15: "another one (perhaps itself) from one on, as if taken ahead". */
    private static void copyAsIfTakenAhead() {
        for (int i = 0; i < 4; i++) {
            for (int j = 0; j < 4; j++) {
                int most = 4 - Math.max(i, j);
                TwoGames x = twoRows(4, 4);
                due("15 copy in itself", x.copy(1, i, 1, j, most), 1);
                for (int k = 0; k < 4; k++) {
                    boolean come = k >= j && k < j + most;
                    due("15 in itself " + i + " to " + j + " place " + k, x.lay(1, k, 0),
                        1010 + (come ? i + k - j : k));
                }
                int more = most + 1;
                int from = i, to = j;
                dueFound(() -> twoRows(4, 4), "15 one more in itself", BEYOND, y -> y.copy(1, from, 1, to, more));
            }
        }
    }

    /** Promise 15: "BAD", ahead of all findings. */
    private static void copyBadRows() {
        dueBadOutside(ALL, "15 copy from no row", 0, 3, (x, v) -> x.copy(v, 0, 3, 0, 1));
        dueBadOutside(ALL, "15 copy to no row", 0, 3, (x, v) -> x.copy(3, 0, v, 0, 1));
        dueBadOutside(ALL, "15 BAD from ahead of SIZE", 0, 3, (x, v) -> x.copy(v, 0, 3, 0, -1));
        dueBadOutside(ALL, "15 BAD to ahead of SIZE", 0, 3, (x, v) -> x.copy(3, 0, v, 0, -1));
        dueBadOutside(ALL, "15 BAD from ahead of NOTHING", 0, 3, (x, v) -> x.copy(v, 0, 2, 0, 0));
        dueBadOutside(ALL, "15 BAD to ahead of NOTHING", 0, 3, (x, v) -> x.copy(2, 0, v, 0, 0));
        dueBadOutside(ALL, "15 BAD ahead of BEYOND", 0, 3, (x, v) -> x.copy(3, 9, v, -1, 9));
        dueTaken(ALL, "15 copy from the first and the last row", 0, 3, (x, v) -> x.copy(v, 0, 3, 0, 2));
        dueTaken(ALL, "15 copy to the first and the last row", 0, 3, (x, v) -> x.copy(3, 0, v, 0, 2));
    }

    /** Promise 15: "SIZE: n below 0", ahead of NOTHING and BEYOND. */
    private static void copySize() {
        for (int n : new int[] {-1, MIN}) {
            dueFound(ALL, "15 copy of " + n, SIZE, x -> x.copy(0, 0, 3, 0, n));
            dueFound(ALL, "15 SIZE ahead of NOTHING from, " + n, SIZE, x -> x.copy(2, 0, 3, 0, n));
            dueFound(ALL, "15 SIZE ahead of NOTHING to, " + n, SIZE, x -> x.copy(0, 0, 2, 0, n));
            dueFound(ALL, "15 SIZE ahead of BEYOND from, " + n, SIZE, x -> x.copy(0, 9, 3, 0, n));
            dueFound(ALL, "15 SIZE ahead of BEYOND to, " + n, SIZE, x -> x.copy(0, 0, 3, -1, n));
        }
    }

    /** Promise 15: "NOTHING: either", ahead of BEYOND. */
    private static void copyNothing() {
        dueFound(ALL, "15 copy from a missing row", NOTHING, x -> x.copy(2, 0, 3, 0, 0));
        dueFound(ALL, "15 copy to a missing row", NOTHING, x -> x.copy(3, 0, 2, 0, 0));
        dueFound(ALL, "15 copy from a missing row to itself", NOTHING, x -> x.copy(2, 0, 2, 0, 0));
        dueFound(ALL, "15 NOTHING from ahead of BEYOND", NOTHING, x -> x.copy(2, 0, 3, 5, 1));
        dueFound(ALL, "15 NOTHING to ahead of BEYOND", NOTHING, x -> x.copy(3, -1, 2, 0, 9));
    }

    /** Promise 15: "BEYOND: not so many there", where place and number together wrap. */
    private static void copyWraps() {
        int[][] beyond = {{MAX, 0, 1}, {0, MAX, 1}, {MAX, MAX, MAX}, {0, 0, MAX}, {1, 0, MAX}, {0, 1, MAX},
            {MAX, 0, 0}, {0, MAX, 0}, {MIN, 0, 0}, {0, MIN, 0}, {MIN, MIN, MAX}, {MAX - 1, 0, 3}, {0, MAX - 1, 3}};
        for (int[] c : beyond) {
            String call = "15 copy(3, " + c[0] + ", 0, " + c[1] + ", " + c[2] + ")";
            dueFound(ALL, call, BEYOND, x -> x.copy(3, c[0], 0, c[1], c[2]));
        }
    }
}
