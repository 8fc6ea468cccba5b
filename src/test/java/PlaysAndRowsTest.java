/** Promises 1 to 15: a new object, plays, rows. */
public final class PlaysAndRowsTest extends Check {
    /** The answer is FINDING, this one finding is counted, and nothing else has changed. */
    private static void dueFinding(TwoGames x, String call, int f, long digest, int before, int got) {
        due(call, got, FINDING);
        due(call + " finding", x.finding(), f);
        due(call + " findings", x.findings(f), before + 1);
        due(call + " digest", x.digest(), digest);
    }

    public static void main(String[] args) {
        newObject();
        rest();
        play();
        rested();
        echo();
        flat();
        fullOnlyBehindBad();
        told();
        mark();
        odds();
        change();
        changeRefused();
        mean();
        row();
        lay();
        tear();
        copy();
        copyRefused();
        end("PlaysAndRowsTest");
    }

    private static void newObject() {
        TwoGames x = new TwoGames();
        due("new count(0)", x.count(0), 0);
        due("new count(1)", x.count(1), 0);
        due("new count(2)", x.count(2), 0);
        due("new count(3)", x.count(3), 3);
        for (int r = 0; r < 4; r++) {
            due("new tear(" + r + ")", x.tear(r), FINDING);
        }
    }

    private static void rest() {
        TwoGames x = new TwoGames();
        due("rest(1)", x.rest(1), 3);
        due("rest(2)", x.rest(2), 1);
        int[] bad = {0, -1, 4, MIN, MAX};
        for (int m : bad) {
            due("rest(" + m + ")", x.rest(m), BAD);
        }
        due("rest(3)", x.rest(3), 2);
        due("rest(3) again", x.rest(3), 3);
    }

    private static void play() {
        TwoGames x = new TwoGames();
        for (int p = 0; p < 8; p++) {
            due("play()", x.play(), p);
            due("kind", x.told(p, 0), 0);
        }
        long digest = x.digest();
        due("9th play()", x.play(), FULL);
        due("9th play: count", x.count(0), 8);
        due("9th play: digest", x.digest(), digest);
        due("9th play: finding", x.finding(), 0);
    }

    private static void rested() {
        TwoGames x = new TwoGames();
        int[] bad = {-1, 13, MIN, MAX};
        for (int v : bad) {
            due("rested a " + v, x.rested(v, 0, 0), BAD);
            due("rested b " + v, x.rested(0, v, 0), BAD);
            due("rested c " + v, x.rested(0, 0, v), BAD);
        }
        due("rested bad: count", x.count(0), 0);
        due("rested(0, 7, 12)", x.rested(0, 7, 12), 0);
        due("rested kind", x.told(0, 0), 1);
        due("rested odds 0", x.odds(0, 0), 0);
        due("rested odds 1", x.odds(0, 1), 7);
        due("rested odds 2", x.odds(0, 2), 12);
        due("rested(1, 1, 1)", x.rested(1, 1, 1), 1);
    }

    private static void echo() {
        TwoGames x = new TwoGames();
        int[] bad = {-1, 13, MIN, MAX};
        for (int v : bad) {
            due("echo a " + v, x.echo(v, 0, 0, 0), BAD);
            due("echo b " + v, x.echo(0, v, 0, 0), BAD);
            due("echo c " + v, x.echo(0, 0, v, 0), BAD);
            due("echo d " + v, x.echo(0, 0, 0, v), BAD);
        }
        due("echo(12, 3, 5, 0)", x.echo(12, 3, 5, 0), 0);
        due("echo kind", x.told(0, 0), 2);
        due("echo odds 0", x.odds(0, 0), 12);
        due("echo odds 1", x.odds(0, 1), 3);
        due("echo odds 2", x.odds(0, 2), 5);
        due("echo odds 3", x.odds(0, 3), 0);
    }

    private static void flat() {
        TwoGames x = new TwoGames();
        int[] bad = {-1, 13, MIN, MAX};
        for (int v : bad) {
            due("flat " + v, x.flat(v), BAD);
        }
        due("flat(0)", x.flat(0), 0);
        due("flat(12)", x.flat(12), 1);
        due("flat kind", x.told(1, 0), 3);
        for (int i = 0; i < 3; i++) {
            due("flat odds", x.odds(1, i), 12);
        }
    }

    private static void fullOnlyBehindBad() {
        TwoGames x = new TwoGames();
        for (int p = 0; p < 8; p++) {
            x.flat(p);
        }
        due("full rested", x.rested(1, 2, 3), FULL);
        due("full echo", x.echo(1, 2, 3, 4), FULL);
        due("full flat", x.flat(1), FULL);
        due("full play", x.play(), FULL);
        due("full rested bad", x.rested(1, 13, 3), BAD);
        due("full echo bad", x.echo(1, 2, -1, 4), BAD);
        due("full flat bad", x.flat(13), BAD);
    }

    private static TwoGames fourKinds() {
        TwoGames x = new TwoGames();
        x.play();
        x.rested(9, 4, 6);
        x.echo(5, 11, 2, 8);
        x.flat(4);
        return x;
    }

    private static void told() {
        TwoGames x = fourKinds();
        int[][] want = {{0, 0, NONE, NONE}, {1, 3, 4, 9}, {2, 4, 2, 11}, {3, 1, 4, 4}};
        for (int p = 0; p < 4; p++) {
            for (int what = 0; what < 4; what++) {
                due("told(" + p + ", " + what + ")", x.told(p, what), want[p][what]);
            }
            due("told what 4", x.told(p, 4), BAD);
            due("told what -1", x.told(p, -1), BAD);
            due("told what max", x.told(p, MAX), BAD);
        }
        due("told play -1", x.told(-1, 0), BAD);
        due("told play 4", x.told(4, 0), BAD);
        due("told play min", x.told(MIN, 0), BAD);
        x.change(1, 2, 12);
        x.change(1, 0, 1);
        due("told least after change", x.told(1, 2), 1);
        due("told greatest after change", x.told(1, 3), 12);
    }

    private static void mark() {
        TwoGames x = fourKinds();
        due("mark rested", x.mark(1, 1), 9);
        due("mark echo", x.mark(2, 2), 8);
        due("mark flat as rested", x.mark(3, 1), 4);
        due("mark flat", x.mark(3, 3), -2);
        due("mark no finding", x.finding(), 0);
        int[][] unlike = {{0, 1}, {0, 2}, {0, 3}, {1, 2}, {1, 3}, {2, 1}, {2, 3}, {3, 2}};
        for (int[] u : unlike) {
            String call = "mark(" + u[0] + ", " + u[1] + ")";
            dueFinding(x, call, UNLIKE, x.digest(), x.findings(UNLIKE), x.mark(u[0], u[1]));
        }
        due("mark kind 0", x.mark(0, 0), BAD);
        due("mark kind 4", x.mark(1, 4), BAD);
        due("mark kind -1", x.mark(1, -1), BAD);
        due("mark play 4", x.mark(4, 1), BAD);
        due("mark play -1", x.mark(-1, 1), BAD);
        due("mark bad: findings", x.findings(UNLIKE), unlike.length);
    }

    private static void odds() {
        TwoGames x = fourKinds();
        due("odds play", x.odds(0, 0), 12);
        int[] many = {1, 3, 4, 3};
        for (int p = 0; p < 4; p++) {
            int[] beyond = {-1, many[p], MIN, MAX};
            for (int i : beyond) {
                dueFinding(x, "odds(" + p + ", " + i + ")", BEYOND, x.digest(), x.findings(BEYOND), x.odds(p, i));
            }
        }
        x.rest(1);
        due("odds at rest 2 by 1", x.odds(1, 2), 6);
        due("odds flat at rest 2 by 1", x.odds(3, 2), 4);
        due("odds play 4", x.odds(4, 9), BAD);
        due("odds play -1", x.odds(-1, 0), BAD);
    }

    private static void change() {
        TwoGames x = fourKinds();
        due("change rested", x.change(1, 1, 0), 4);
        due("change rested again", x.change(1, 1, 12), 0);
        due("change rested: 0", x.odds(1, 0), 9);
        due("change rested: 1", x.odds(1, 1), 12);
        due("change rested: 2", x.odds(1, 2), 6);
        due("change echo", x.change(2, 3, 1), 8);
        due("change echo: 3", x.odds(2, 3), 1);
        due("change flat", x.change(3, 0, 10), 4);
        for (int i = 0; i < 3; i++) {
            due("change flat: odds", x.odds(3, i), 10);
        }
        due("change flat: mark", x.mark(3, 3), 4);
    }

    private static void changeRefused() {
        TwoGames x = fourKinds();
        int[] badValues = {-1, 13, MIN, MAX};
        for (int v : badValues) {
            due("change v " + v, x.change(1, 0, v), BAD);
            due("change v ahead of findings " + v, x.change(0, 9, v), BAD);
        }
        due("change play 4", x.change(4, 0, 0), BAD);
        due("change play -1", x.change(-1, 0, 0), BAD);
        due("change bad: finding", x.finding(), 0);
        long d = x.digest();
        dueFinding(x, "change play", UNLIKE, d, 0, x.change(0, 0, 12));
        dueFinding(x, "change play, UNLIKE ahead of BEYOND", UNLIKE, d, 1, x.change(0, 7, 12));
        int[] many = {0, 3, 4, 1};
        for (int p = 1; p < 4; p++) {
            dueFinding(x, "change beyond", BEYOND, d, x.findings(BEYOND), x.change(p, many[p], 1));
            dueFinding(x, "change below", BEYOND, d, x.findings(BEYOND), x.change(p, -1, 1));
        }
    }

    private static void mean() {
        TwoGames x = fourKinds();
        due("mean rested", x.mean(1), 6);
        due("mean echo, cut", x.mean(2), 6);
        due("mean flat", x.mean(3), 4);
        x.change(1, 0, 10);
        due("mean rested, cut", x.mean(1), 6);
        x.change(1, 0, 11);
        due("mean rested at 21 by 3", x.mean(1), 7);
        dueFinding(x, "mean play", NOUGHT, x.digest(), 0, x.mean(0));
        due("mean 4", x.mean(4), BAD);
        due("mean -1", x.mean(-1), BAD);
    }

    private static void row() {
        TwoGames x = new TwoGames();
        for (int n = 0; n <= 4; n++) {
            due("row(1, " + n + ")", x.row(1, n), n);
            due("row: rows", x.count(2), 1);
            for (int i = 0; i < n; i++) {
                due("row: place is 0", x.lay(1, i, 77), 1000);
            }
            due("row: no place behind", x.lay(1, n, 5), FINDING);
        }
        due("row(0, 4)", x.row(0, 4), 4);
        due("row(3, 0)", x.row(3, 0), 0);
        due("row: rows", x.count(2), 3);
        x.row(0, 1);
        x.row(0, 4);
        due("row: anew all 0", x.lay(0, 3, 0), 1000);
        long d = x.digest();
        dueFinding(x, "row n -1", SIZE, d, 0, x.row(1, -1));
        dueFinding(x, "row n min", SIZE, d, 1, x.row(2, MIN));
        int[] bad = {-1, 4, MIN, MAX};
        for (int r : bad) {
            due("row r " + r, x.row(r, 1), BAD);
            due("row r and n " + r, x.row(r, -1), BAD);
        }
        due("row n 5", x.row(0, 5), BAD);
        due("row n max", x.row(0, MAX), BAD);
        due("row bad: digest", x.digest(), d);
    }

    private static void lay() {
        TwoGames x = new TwoGames();
        x.row(2, 3);
        due("lay first", x.lay(2, 0, 41), 1000);
        due("lay again", x.lay(2, 0, -1000), 1041);
        due("lay below 0", x.lay(2, 0, MAX), 0);
        due("lay wraps", x.lay(2, 0, MIN), MIN + 999);
        due("lay min", x.lay(2, 0, 0), MIN + 1000);
        due("lay last", x.lay(2, 2, 6), 1000);
        long d = x.digest();
        dueFinding(x, "lay 3", BEYOND, d, 0, x.lay(2, 3, 1));
        dueFinding(x, "lay -1", BEYOND, d, 1, x.lay(2, -1, 1));
        dueFinding(x, "lay min", BEYOND, d, 2, x.lay(2, MIN, 1));
        dueFinding(x, "lay missing", NOTHING, d, 0, x.lay(0, 0, 1));
        dueFinding(x, "lay missing ahead of beyond", NOTHING, d, 1, x.lay(0, -1, 1));
        due("lay r 4", x.lay(4, 0, 1), BAD);
        due("lay r -1", x.lay(-1, 0, 1), BAD);
    }

    private static void tear() {
        TwoGames x = new TwoGames();
        x.row(3, 0);
        x.row(0, 2);
        due("tear(3)", x.tear(3), 1);
        due("tear: rows", x.count(2), 1);
        dueFinding(x, "tear(3) again", NOTHING, x.digest(), 0, x.tear(3));
        due("tear 4", x.tear(4), BAD);
        due("tear -1", x.tear(-1), BAD);
        due("tear(0)", x.tear(0), 1);
        due("tear: none", x.count(2), 0);
        x.row(0, 2);
        due("tear: there anew", x.lay(0, 1, 9), 1000);
    }

    private static TwoGames laid() {
        TwoGames x = new TwoGames();
        x.row(0, 4);
        x.row(1, 3);
        for (int i = 0; i < 4; i++) {
            x.lay(0, i, 10 + i);
        }
        return x;
    }

    private static void copy() {
        TwoGames x = laid();
        due("copy", x.copy(0, 2, 1, 1, 2), 1);
        duePlaces(x, "copy", 1, 0, 12, 13);
        duePlaces(x, "copy source", 0, 10, 11, 12, 13);
        due("copy up in itself", x.copy(0, 0, 0, 1, 3), 1);
        duePlaces(x, "copy up", 0, 10, 10, 11, 12);
        due("copy down in itself", x.copy(0, 1, 0, 0, 3), 1);
        duePlaces(x, "copy down", 0, 10, 11, 12, 12);
        long d = x.digest();
        due("copy none at the end", x.copy(0, 4, 1, 3, 0), 1);
        due("copy onto itself", x.copy(0, 0, 0, 0, 4), 1);
        due("copy: digest", x.digest(), d);
    }

    private static void copyRefused() {
        TwoGames x = laid();
        long d = x.digest();
        due("copy r 4", x.copy(4, 0, 0, 0, -1), BAD);
        due("copy r -1", x.copy(-1, 0, 0, 0, 0), BAD);
        due("copy to 4", x.copy(0, 0, 4, 0, 0), BAD);
        due("copy to -1", x.copy(0, 0, -1, 0, 0), BAD);
        dueFinding(x, "copy n -1", SIZE, d, 0, x.copy(0, 0, 1, 0, -1));
        dueFinding(x, "copy SIZE ahead of NOTHING", SIZE, d, 1, x.copy(2, 9, 3, 9, MIN));
        dueFinding(x, "copy from missing", NOTHING, d, 0, x.copy(2, 0, 0, 0, 0));
        dueFinding(x, "copy to missing", NOTHING, d, 1, x.copy(0, 0, 3, 0, 0));
        dueFinding(x, "copy NOTHING ahead of BEYOND", NOTHING, d, 2, x.copy(0, -5, 3, 0, 99));
        int[][] beyond = {
            {0, 2, 1, 0, 3}, {0, 0, 1, 1, 3}, {0, 0, 1, 0, 4}, {0, -1, 1, 0, 1}, {0, 0, 1, -1, 1},
            {0, 5, 1, 0, 0}, {0, 0, 1, 4, 0}, {0, MAX, 1, 0, MAX}, {0, 1, 1, 1, MAX}, {0, MIN, 1, 0, 0}};
        for (int k = 0; k < beyond.length; k++) {
            int[] c = beyond[k];
            dueFinding(x, "copy beyond " + k, BEYOND, d, k, x.copy(c[0], c[1], c[2], c[3], c[4]));
        }
    }
}
