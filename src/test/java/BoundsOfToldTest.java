import java.util.function.Supplier;

/** The sentences of promises 29 to 34 that name a bound; what is refused; and 512 calls. */
public final class BoundsOfToldTest extends Check {
    private static final Supplier<TwoGames> ALL = Check::oneOfAll;

    public static void main(String[] args) {
        fractionBefore();
        fractionOfOnlyRefusedCalls();
        fractionStays();
        fractionInLowestTerms();
        countWhat();
        countEmptyAndFull();
        findingBeforeAny();
        findingIsTheLatest();
        findingOfOtherRefusals();
        findingsOfNone();
        findingsCountEachApart();
        digestOfNothing();
        digestOfAllPlaces();
        digestWraps();
        askingChangesNothing();
        fiveHundredAndTwelveCalls();
        dearestCalls();
        objectsAreApart();
        end("BoundsOfToldTest");
    }

    /** Promises 29, 30: "0 before", "1 before". */
    private static void fractionBefore() {
        TwoGames x = new TwoGames();
        due("29 upper() before", x.upper(), 0);
        due("30 lower() before", x.lower(), 1);
    }

    private static void fractionOfOnlyRefusedCalls() {
        TwoGames x = new TwoGames();
        x.gain(0);
        x.leads(4, 0, 0);
        x.bestRow(1, 0);
        x.bestChoice();
        x.run(0, 0, 1, 0);
        due("29 upper() behind refused calls", x.upper(), 0);
        due("30 lower() behind refused calls", x.lower(), 1);
    }

    /** Promise 29: "the fraction that was told last": these calls tell none. */
    private static void fractionStays() {
        Call[] silent = {x -> x.rest(2), x -> x.play(), x -> x.rested(1, 2, 3), x -> x.echo(1, 2, 3, 4),
            x -> x.flat(5), x -> x.told(1, 2), x -> x.mark(1, 1), x -> x.odds(1, 1), x -> x.change(1, 1, 1),
            x -> x.mean(1), x -> x.row(0, 1), x -> x.lay(0, 0, 0), x -> x.tear(0), x -> x.copy(0, 0, 3, 0, 1),
            x -> x.middle(0, 3), x -> x.choice(0), x -> x.paradoxes(), x -> x.count(0), x -> x.findings(1)};
        for (int c = 0; c < silent.length; c++) {
            TwoGames x = oneOfAll();
            long upper = x.upper();
            long lower = x.lower();
            due("29 a fraction is told", lower > 1 ? 1 : 0, 1);
            silent[c].on(x);
            due("29 upper() stays, call " + c, x.upper(), upper);
            due("30 lower() stays, call " + c, x.lower(), lower);
        }
    }

    /** Terms: "in lowest terms, the lower number above 0 (0 by 1)". */
    private static void fractionInLowestTerms() {
        TwoGames x = new TwoGames();
        x.flat(0);
        x.row(0, 1);
        int[] upper = {0, 1, 1, 1, 1, 5, 1, 7, 2, 3, 5, 11, 1};
        int[] lower = {1, 12, 6, 4, 3, 12, 2, 12, 3, 4, 6, 12, 1};
        for (int a = 0; a <= 12; a++) {
            x.change(0, 0, a);
            dueTold(x, "29 a by 12, " + a, x.after(0, 0, 1, 1), 1, upper[a], lower[a]);
            dueTold(x, "29 below 0, " + a, x.after(0, 0, 1, -1), 1, upper[12 - a], lower[12 - a]);
        }
        x.change(0, 0, 3);
        dueTold(x, "29 the upper number below 0", x.gain(0), 2, -1, 2);
        dueTold(x, "29 the upper number below 0, mean", x.meanAfter(0, 0, 9), 1, -9, 2);
    }

    /** Promise 31: "0 PLAYS, 1 ECHOES, 2 ROWS that are there, 3 m. BAD." */
    private static void countWhat() {
        dueBounds(ALL, "31 count", 0, 3, (x, v) -> x.count(v));
        dueBadOutside(TwoGames::new, "31 new count", 0, 3, (x, v) -> x.count(v));
    }

    private static void countEmptyAndFull() {
        TwoGames x = new TwoGames();
        for (int p = 0; p <= 8; p++) {
            due("31 PLAYS", x.count(0), p);
            due("31 ECHOES", x.count(1), (p + 1) / 2);
            if (p % 2 == 0) {
                x.echo(1, 2, 3, 4);
            } else {
                x.play();
            }
        }
        due("31 PLAYS behind FULL", x.count(0), 8);
        due("31 ECHOES behind FULL", x.count(1), 4);
        for (int r = 0; r < 4; r++) {
            due("31 ROWS", x.count(2), r);
            x.row(r, r == 0 ? 0 : 4);
        }
        due("31 all ROWS", x.count(2), 4);
        x.row(3, 0);
        due("31 all ROWS, one anew", x.count(2), 4);
        for (int r = 3; r >= 0; r--) {
            x.tear(r);
            due("31 ROWS torn", x.count(2), r);
        }
        TwoGames y = new TwoGames();
        for (int p = 0; p < 8; p++) {
            y.echo(0, 0, 0, 0);
        }
        due("31 all ECHOES", y.count(1), 8);
    }

    /** Promise 32: "(0 before any)". */
    private static void findingBeforeAny() {
        due("32 new finding()", new TwoGames().finding(), 0);
        for (int f = 1; f <= 5; f++) {
            due("33 new findings(" + f + ")", new TwoGames().findings(f), 0);
        }
    }

    /** One call for each FINDING, in the order of their numbers. */
    private static Call[] finders() {
        return new Call[] {x -> x.tear(2), x -> x.odds(0, 1), x -> x.mark(0, 1), x -> x.mean(0), x -> x.row(0, -1)};
    }

    /** Promise 32: "The latest FINDING". */
    private static void findingIsTheLatest() {
        Call[] finders = finders();
        for (int first = 0; first < 5; first++) {
            for (int then = 0; then < 5; then++) {
                TwoGames x = oneOfAll();
                finders[first].on(x);
                due("32 finding() " + (first + 1), x.finding(), first + 1);
                finders[then].on(x);
                due("32 finding() " + (then + 1) + " behind " + (first + 1), x.finding(), then + 1);
            }
        }
    }

    /** Terms: FINDING is one refusal of four; BAD, FULL, STATE and NONE are no findings. */
    private static void findingOfOtherRefusals() {
        Supplier<TwoGames> full = () -> {
            TwoGames x = oneOfAllBy(2).get();
            for (int p = 0; p < 4; p++) {
                x.flat(p);
            }
            return x;
        };
        dueStill(full, "32 BAD", BAD, x -> x.rest(0));
        dueStill(full, "32 FULL", FULL, x -> x.play());
        dueStill(full, "32 STATE", STATE, x -> x.gain(0));
        dueStill(full, "32 NONE", NONE, x -> x.told(0, 2));
    }

    /** Promise 33: "a FINDING (1 .. 5) .. BAD". */
    private static void findingsOfNone() {
        dueBounds(ALL, "33 findings", 1, 5, (x, v) -> x.findings(v));
        dueBadOutside(TwoGames::new, "33 new findings", 1, 5, (x, v) -> x.findings(v));
    }

    /** Promise 33: "How often a FINDING .. was answered". */
    private static void findingsCountEachApart() {
        Call[] finders = finders();
        for (int f = 0; f < 5; f++) {
            TwoGames x = new TwoGames();
            x.play();
            for (int k = 1; k <= 40; k++) {
                due("33 answered", finders[f].on(x), FINDING);
                due("33 findings(" + (f + 1) + ")", x.findings(f + 1), k);
            }
            for (int other = 1; other <= 5; other++) {
                due("33 findings(" + other + ") beside", x.findings(other), other == f + 1 ? 40 : 0);
            }
        }
    }

    /** Promise 34: "h = 17; then h = 31 h + v for each v: m; .. of each ROW its size (-1: missing)". */
    private static void digestOfNothing() {
        for (int m = 1; m <= 3; m++) {
            TwoGames x = new TwoGames();
            x.rest(m);
            due("34 digest of nothing by " + m, x.digest(), digestOf(m, -1, -1, -1, -1));
            x.row(0, 0);
            due("34 digest of an empty row", x.digest(), digestOf(m, 0, -1, -1, -1));
            x.row(3, 1);
            due("34 digest of the last row", x.digest(), digestOf(m, 0, -1, -1, 1, 0));
            x.tear(0);
            due("34 digest of a torn row", x.digest(), digestOf(m, -1, -1, -1, 1, 0));
        }
    }

    /** Promise 34: "of each PLAY told() 0 to 3 and all its odds": 0, 3, 4, 1 of them. */
    private static void digestOfAllPlaces() {
        TwoGames x = new TwoGames();
        x.play();
        due("34 digest of KIND 0", x.digest(), digestOf(3, 0, 0, -9, -9, -1, -1, -1, -1));
        x = new TwoGames();
        x.rested(12, 0, 7);
        due("34 digest of RESTED", x.digest(), digestOf(3, 1, 3, 0, 12, 12, 0, 7, -1, -1, -1, -1));
        x.rest(1);
        due("34 digest of RESTED by 1", x.digest(), digestOf(1, 1, 3, 0, 12, 12, 0, 7, -1, -1, -1, -1));
        x = new TwoGames();
        x.echo(3, 4, 2, 9);
        due("34 digest of ECHO", x.digest(), digestOf(3, 2, 4, 2, 9, 3, 4, 2, 9, -1, -1, -1, -1));
        x = new TwoGames();
        x.flat(8);
        due("34 digest of FLAT", x.digest(), digestOf(3, 3, 1, 8, 8, 8, -1, -1, -1, -1));
        x.change(0, 0, 0);
        lay(x, 2, 4, 3, 2, 1);
        due("34 digest of a full row", x.digest(), digestOf(3, 3, 1, 0, 0, 0, -1, -1, 4, 4, 3, 2, 1, -1));
        TwoGames y = new TwoGames();
        int[] values = new int[1 + 8 * 8 + 4 * 5];
        values[0] = 3;
        for (int p = 0; p < 8; p++) {
            y.echo(p, p, p, p);
            System.arraycopy(new int[] {2, 4, p, p, p, p, p, p}, 0, values, 1 + 8 * p, 8);
        }
        for (int r = 0; r < 4; r++) {
            lay(y, r, r, 1, 2, 3);
            System.arraycopy(new int[] {4, r, 1, 2, 3}, 0, values, 65 + 5 * r, 5);
        }
        due("34 digest of all that there can be", y.digest(), digestOf(values));
    }

    /** Promise 34: a long that wraps, of ints with their sign. */
    private static void digestWraps() {
        TwoGames x = new TwoGames();
        for (int v : new int[] {MIN, -1, MAX}) {
            lay(x, 3, v, v, v, v);
            due("34 digest with " + v, x.digest(), digestOf(3, -1, -1, -1, 4, v, v, v, v));
        }
    }

    /** These calls only tell: all stays as it is. */
    private static void askingChangesNothing() {
        dueStill(ALL, "7 told", 3, x -> x.told(1, 1));
        dueStill(ALL, "8 mark", 9, x -> x.mark(1, 1));
        dueStill(ALL, "9 odds", 4, x -> x.odds(1, 1));
        dueStill(ALL, "11 mean", 6, x -> x.mean(1));
        dueStill(ALL, "31 count", 4, x -> x.count(0));
        dueStill(ALL, "32 finding", NOUGHT, x -> x.finding());
        dueStill(ALL, "33 findings", 1, x -> x.findings(NOUGHT));
        Call[] telling = {x -> x.leads(0, 0, 0), x -> x.share(0, 0), x -> x.gain(0), x -> x.lot(0, 1, 2),
            x -> x.after(0, 1, 2, 3), x -> x.meanAfter(0, 1, 2), x -> x.ends(1, 0, 1, 2), x -> x.run(2, 1, 2, 3)};
        for (int c = 0; c < telling.length; c++) {
            TwoGames x = oneOfAll();
            long digest = x.digest();
            int choice = x.choice(0);
            telling[c].on(x);
            due("34 digest behind a fraction told, " + c, x.digest(), digest);
            due("23 choice behind a fraction told, " + c, x.choice(0), choice);
            due("32 finding behind a fraction told, " + c, x.finding(), NOUGHT);
        }
    }

    /** "An object is used for at most 512 calls after it has been made": the 512th is answered, too. */
    private static void fiveHundredAndTwelveCalls() {
        TwoGames x = new TwoGames();
        for (int call = 1; call <= 510; call++) {
            due("14 call " + call, x.tear(0), FINDING);
        }
        due("33 call 511", x.findings(NOTHING), 510);
        due("34 call 512", x.digest(), digestOf(3, -1, -1, -1, -1));
    }

    private static void dearestCalls() {
        TwoGames x = new TwoGames();
        for (int p = 0; p < 8; p++) {
            x.rested(p, 11 - p, 1 + p);
        }
        due("21 call 9", x.bestRow(4, 0), 1);
        long upper = x.upper();
        for (int call = 11; call <= 510; call++) {
            due("21 call " + call, x.bestRow(4, 0), 1);
        }
        due("29 call 511", x.upper(), upper);
        due("18 call 512", x.gain(0), 1);
    }

    /** Promise 1 holds for every new object, whatever others there are. */
    private static void objectsAreApart() {
        TwoGames x = oneOfAll();
        TwoGames y = new TwoGames();
        due("1 digest of another object", y.digest(), digestOf(3, -1, -1, -1, -1));
        y.flat(1);
        y.rest(1);
        y.bestChoice();
        due("1 count(3) of the first", x.count(3), 3);
        due("1 count(0) of the first", x.count(0), 4);
        due("1 finding of the other", y.finding(), 0);
        due("1 finding of the first", x.finding(), NOUGHT);
    }
}
