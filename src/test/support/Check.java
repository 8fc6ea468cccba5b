import java.util.function.Supplier;

/**
 * What the tests share: comparing an answer with the one that is due, and watching what a refused call
 * changes. Every watched call is made on an object of its own, so that none comes near 512 calls.
 */
abstract class Check {
    static final int BAD = -1, FULL = -2, FINDING = -3, STATE = -4, NONE = -9;
    static final int NOTHING = 1, BEYOND = 2, UNLIKE = 3, NOUGHT = 4, SIZE = 5;
    static final int MIN = Integer.MIN_VALUE, MAX = Integer.MAX_VALUE;
    private static int wrong = 0;

    interface Call {
        int on(TwoGames x);
    }

    /** A call with one number that is tried at its bounds. */
    interface CallWith {
        int on(TwoGames x, int v);
    }

    static void due(String call, long got, long want) {
        if (got != want) {
            wrong++;
            System.out.println(call + " answered " + got + ", due is " + want);
        }
    }

    static void dueTold(TwoGames x, String call, int got, int want, long upper, long lower) {
        due(call, got, want);
        due(call + " upper", x.upper(), upper);
        due(call + " lower", x.lower(), lower);
    }

    static void dueFinding(TwoGames x, String call, int f, int got) {
        due(call, got, FINDING);
        due(call + " finding", x.finding(), f);
    }

    /** All that can be seen of an object but its findings; to look changes nothing. */
    private static long[] seen(TwoGames x) {
        return new long[] {x.digest(), x.upper(), x.lower(), x.count(0), x.count(1), x.count(2), x.count(3),
            x.choice(0), x.choice(1), x.choice(2)};
    }

    /** The latest finding, then how often each was found. */
    private static long[] found(TwoGames x) {
        long[] found = new long[SIZE + 1];
        found[0] = x.finding();
        for (int f = NOTHING; f <= SIZE; f++) {
            found[f] = x.findings(f);
        }
        return found;
    }

    private static void dueSame(String what, long[] got, long[] want) {
        for (int k = 0; k < want.length; k++) {
            due(what + " " + k, got[k], want[k]);
        }
    }

    /** The answer is due, and the call leaves all as it was, the findings too. */
    static void dueStill(Supplier<TwoGames> from, String call, int want, Call made) {
        TwoGames x = from.get();
        long[] before = seen(x);
        long[] findings = found(x);
        due(call, made.on(x), want);
        dueSame(call + ": what can be seen", seen(x), before);
        dueSame(call + ": findings", found(x), findings);
    }

    /** The answer is FINDING: this one is the latest and counted once more, all else is as it was. */
    static void dueFound(Supplier<TwoGames> from, String call, int f, Call made) {
        TwoGames x = from.get();
        long[] before = seen(x);
        long[] findings = found(x);
        findings[0] = f;
        findings[f]++;
        due(call, made.on(x), FINDING);
        dueSame(call + ": what can be seen", seen(x), before);
        dueSame(call + ": findings", found(x), findings);
    }

    private static int[] outside(int lo, int hi) {
        return new int[] {lo - 1, hi + 1, MIN, MAX};
    }

    /** Just outside lo .. hi, and at both ends of int, a number is BAD. */
    static void dueBadOutside(Supplier<TwoGames> from, String call, int lo, int hi, CallWith made) {
        for (int v : outside(lo, hi)) {
            dueStill(from, call + " with " + v, BAD, x -> made.on(x, v));
        }
    }

    /** Just outside lo .. hi, and at both ends of int, a place is one that there is not. */
    static void dueBeyondOutside(Supplier<TwoGames> from, String call, int lo, int hi, CallWith made) {
        for (int v : outside(lo, hi)) {
            dueFound(from, call + " with " + v, BEYOND, x -> made.on(x, v));
        }
    }

    /** The first number and the last one are taken: nothing is refused, and no finding changes. */
    static void dueTaken(Supplier<TwoGames> from, String call, int lo, int hi, CallWith made) {
        for (int v : new int[] {lo, hi}) {
            TwoGames x = from.get();
            long[] findings = found(x);
            due(call + " with " + v + " is taken", Math.min(made.on(x, v), 0), 0);
            dueSame(call + " with " + v + ": findings", found(x), findings);
        }
    }

    /** Taken from lo to hi, BAD outside. */
    static void dueBounds(Supplier<TwoGames> from, String call, int lo, int hi, CallWith made) {
        dueTaken(from, call, lo, hi, made);
        dueBadOutside(from, call, lo, hi, made);
    }

    static void lay(TwoGames x, int r, int... places) {
        x.row(r, places.length);
        for (int i = 0; i < places.length; i++) {
            x.lay(r, i, places[i]);
        }
    }

    static void duePlaces(TwoGames x, String call, int r, int... want) {
        for (int i = 0; i < want.length; i++) {
            due(call + " place " + i, x.lay(r, i, want[i]), want[i] + 1000);
        }
    }

    static long digestOf(int... values) {
        long h = 17;
        for (int v : values) {
            h = 31 * h + v;
        }
        return h;
    }

    /**
     * One of everything: plays 0 PLAY, 1 RESTED, 2 ECHO, 3 FLAT; row 0 fit, 1 empty, 2 missing, 3 fit
     * with four places; a choice, a fraction told, and every finding found, NOUGHT the last.
     */
    static TwoGames oneOfAll() {
        TwoGames x = new TwoGames();
        x.play();
        x.rested(9, 4, 6);
        x.echo(5, 11, 2, 8);
        x.flat(4);
        lay(x, 0, 1, 3);
        x.row(1, 0);
        lay(x, 3, 1, 0, 3, 1);
        x.bestChoice();
        x.gain(0);
        x.tear(2);
        x.odds(0, 1);
        x.mark(0, 1);
        x.row(0, -1);
        x.mean(0);
        return x;
    }

    /** The same by 1 .. 3; by 2 the rows of an even length do not settle. */
    static Supplier<TwoGames> oneOfAllBy(int m) {
        return () -> {
            TwoGames x = oneOfAll();
            x.rest(m);
            return x;
        };
    }

    /** Says how it went; a test that failed ends with exit code 1. */
    static void end(String test) {
        System.out.println(wrong == 0 ? test + ": as due" : wrong + " answers are not as due");
        if (wrong != 0) {
            System.exit(1);
        }
    }
}
