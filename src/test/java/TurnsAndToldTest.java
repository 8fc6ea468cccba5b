/** Promises 25 to 34: after turns, ends, runs, and what is told. */
public final class TurnsAndToldTest extends Check {
    public static void main(String[] args) {
        after();
        afterOverAndOver();
        afterRefused();
        meanAfter();
        ends();
        endsForEver();
        endsRefused();
        run();
        runRefused();
        upperAndLower();
        count();
        findings();
        digest();
        end("TurnsAndToldTest");
    }

    /** Plays 0 rested 3 6 9, 1 flat 4, 2 always wins, 3 an echo. */
    private static TwoGames some() {
        TwoGames x = new TwoGames();
        x.rested(3, 6, 9);
        x.flat(4);
        x.play();
        x.echo(1, 2, 3, 4);
        return x;
    }

    private static void after() {
        TwoGames x = some();
        lay(x, 0, 0);
        dueTold(x, "after 0 turns", x.after(0, 7, 0, 7), 1, 1, 1);
        dueTold(x, "after 0 turns elsewhere", x.after(0, 7, 0, 8), 1, 0, 1);
        dueTold(x, "after 1 turn up", x.after(0, 0, 1, 1), 1, 1, 4);
        dueTold(x, "after 1 turn down", x.after(0, 0, 1, -1), 1, 3, 4);
        dueTold(x, "after 1 turn stays", x.after(0, 0, 1, 0), 1, 0, 1);
        dueTold(x, "after 2 turns", x.after(0, 0, 2, 0), 1, 11, 16);
        dueTold(x, "after 2 turns down", x.after(0, 0, 2, -2), 1, 3, 16);
        dueTold(x, "after 1 turn from -2", x.after(0, -2, 1, -1), 1, 1, 2);
        dueTold(x, "after far away", x.after(0, -20, 9, 40), 1, 0, 1);
        dueTold(x, "after far below", x.after(0, 20, 9, -40), 1, 0, 1);
        dueTold(x, "after just too far", x.after(0, 20, 9, 30), 1, 0, 1);
        x.rest(2);
        dueTold(x, "after by 2 from -1", x.after(0, -1, 1, 0), 1, 1, 2);
        x.rest(1);
        dueTold(x, "after by 1 from 2", x.after(0, 2, 1, 3), 1, 1, 4);
    }

    private static void afterOverAndOver() {
        TwoGames x = some();
        lay(x, 1, 2, 1);
        dueTold(x, "after 3 turns of two", x.after(1, 0, 3, 3), 1, 1, 3);
        dueTold(x, "after 3 turns of two, one lost", x.after(1, 0, 3, 1), 1, 2, 3);
        dueTold(x, "after 9 turns of two", x.after(1, 20, 9, 29), 1, 1, 81);
        dueTold(x, "after 9 turns of two, all lost", x.after(1, 20, 9, 21), 1, 16, 81);
        x.flat(1);
        lay(x, 2, 4);
        dueTold(x, "after 9 rare wins", x.after(2, -20, 9, -11), 1, 1, 5159780352L);
        dueTold(x, "after 9 losses", x.after(2, -20, 9, -29), 1, 2357947691L, 5159780352L);
    }

    private static void afterRefused() {
        TwoGames x = some();
        due("after r 4", x.after(4, 0, 0, 0), BAD);
        due("after r -1", x.after(-1, 0, 0, 0), BAD);
        due("after n -1", x.after(0, 0, -1, 0), BAD);
        due("after n 10", x.after(0, 0, 10, 0), BAD);
        due("after purse 21", x.after(0, 21, 0, 0), BAD);
        due("after purse -21", x.after(0, -21, 0, 0), BAD);
        due("after then 41", x.after(0, 0, 0, 41), BAD);
        due("after then -41", x.after(0, 0, 0, -41), BAD);
        due("after then min", x.after(0, 0, 0, MIN), BAD);
        due("meanAfter r 4", x.meanAfter(4, 0, 0), BAD);
        due("meanAfter r -1", x.meanAfter(-1, 0, 0), BAD);
        due("meanAfter purse 21", x.meanAfter(0, 21, 0), BAD);
        due("meanAfter purse -21", x.meanAfter(0, -21, 0), BAD);
        due("meanAfter n 10", x.meanAfter(0, 0, 10), BAD);
        due("meanAfter n -1", x.meanAfter(0, 0, -1), BAD);
        due("after bad: finding", x.finding(), 0);
        dueFinding(x, "after missing", NOTHING, x.after(0, 0, 0, 0));
        dueFinding(x, "meanAfter missing", NOTHING, x.meanAfter(0, 0, 0));
        int[][] unfit = {{}, {3}, {0, 4}, {-1}};
        for (int[] row : unfit) {
            lay(x, 0, row);
            dueFinding(x, "after unfit", UNLIKE, x.after(0, 0, 0, 0));
            dueFinding(x, "meanAfter unfit", UNLIKE, x.meanAfter(0, 0, 0));
        }
        due("after: NOTHING", x.findings(NOTHING), 2);
        due("after: UNLIKE", x.findings(UNLIKE), 2 * unfit.length);
    }

    private static void meanAfter() {
        TwoGames x = some();
        lay(x, 0, 0);
        dueTold(x, "meanAfter 0", x.meanAfter(0, -13, 0), 1, -13, 1);
        dueTold(x, "meanAfter 0 at 0", x.meanAfter(0, 0, 0), 1, 0, 1);
        dueTold(x, "meanAfter 1", x.meanAfter(0, 0, 1), 1, -1, 2);
        dueTold(x, "meanAfter 2", x.meanAfter(0, 0, 2), 1, -1, 8);
        lay(x, 1, 2, 1);
        dueTold(x, "meanAfter 9 of two", x.meanAfter(1, 20, 9), 1, 71, 3);
        lay(x, 2, 2);
        dueTold(x, "meanAfter 9 wins", x.meanAfter(2, 20, 9), 1, 29, 1);
        x.rest(1);
        dueTold(x, "meanAfter by 1", x.meanAfter(0, 2, 1), 1, 3, 2);
    }

    private static void ends() {
        TwoGames x = some();
        x.flat(6);
        dueTold(x, "ends even", x.ends(4, -4, 0, 5), 1, 4, 9);
        dueTold(x, "ends flat 4", x.ends(1, 0, 2, 4), 1, 1, 5);
        dueTold(x, "ends one between", x.ends(0, -1, 0, 1), 1, 1, 4);
        dueTold(x, "ends below 0", x.ends(0, -3, -2, -1), 1, 1, 2);
        dueTold(x, "ends by rests", x.ends(0, 0, 1, 3), 1, 3, 7);
        dueTold(x, "ends at the limits", x.ends(4, -20, -19, -11), 1, 1, 9);
        dueTold(x, "ends at the upper limit", x.ends(4, 11, 19, 20), 1, 8, 9);
        x.rest(2);
        dueTold(x, "ends by 2", x.ends(0, 0, 1, 3), 1, 1, 5);
        x.rest(1);
        dueTold(x, "ends by 1", x.ends(0, 0, 1, 2), 1, 1, 4);
    }

    private static void endsForEver() {
        TwoGames x = new TwoGames();
        x.rested(12, 0, 6);
        x.flat(12);
        x.flat(0);
        x.rested(0, 12, 6);
        due("ends for ever", x.ends(0, -2, 0, 3), STATE);
        due("ends for ever from another purse", x.ends(0, -2, -1, 2), STATE);
        due("ends for ever elsewhere, not reached", x.ends(3, 0, 2, 7), STATE);
        due("ends: no finding", x.finding(), 0);
        dueTold(x, "ends: STATE tells nothing", x.ends(0, -2, 0, 3), STATE, 0, 1);
        dueTold(x, "ends always up", x.ends(1, 0, 1, 9), 1, 1, 1);
        dueTold(x, "ends always down", x.ends(2, 0, 8, 9), 1, 0, 1);
        dueTold(x, "ends apart: below", x.ends(3, -1, 0, 2), 1, 0, 1);
        dueTold(x, "ends apart: above", x.ends(3, -1, 1, 2), 1, 1, 1);
    }

    private static void endsRefused() {
        TwoGames x = some();
        due("ends play 4", x.ends(4, 0, 1, 2), BAD);
        due("ends play -1", x.ends(-1, 0, 1, 2), BAD);
        due("ends lo at purse", x.ends(0, 1, 1, 2), BAD);
        due("ends hi at purse", x.ends(0, 0, 2, 2), BAD);
        due("ends turned", x.ends(0, 2, 1, 0), BAD);
        due("ends too wide", x.ends(0, 0, 1, 10), BAD);
        due("ends lo -21", x.ends(0, -21, -20, -19), BAD);
        due("ends hi 21", x.ends(0, 18, 20, 21), BAD);
        due("ends wraps", x.ends(0, MIN, 0, MAX), BAD);
        due("ends BAD ahead of UNLIKE", x.ends(3, 0, 1, 10), BAD);
        due("ends bad: finding", x.finding(), 0);
        dueFinding(x, "ends play", UNLIKE, x.ends(2, 0, 1, 2));
        dueFinding(x, "ends echo", UNLIKE, x.ends(3, 0, 1, 2));
        due("ends: findings", x.findings(UNLIKE), 2);
    }

    private static void run() {
        TwoGames x = some();
        x.echo(2, 5, 7, 11);
        for (int before = 0; before < 4; before++) {
            int win = x.odds(4, before);
            due("run one won", x.run(4, before, 1, 1), 1);
            due("run one won told", x.upper() * 12, win * x.lower());
            due("run one lost", x.run(4, before, 1, 0), 1);
            due("run one lost told", x.upper() * 12, (12 - win) * x.lower());
        }
        dueTold(x, "run won lost won", x.run(4, 0, 3, 5), 1, 49, 864);
        dueTold(x, "run won lost lost", x.run(4, 0, 3, 1), 1, 35, 864);
        dueTold(x, "run lost won behind won won", x.run(4, 3, 2, 2), 1, 7, 144);
        dueTold(x, "run 12 won", x.run(4, 3, 12, 4095), 1, 3138428376721L, 8916100448256L);
        x.echo(0, 12, 12, 12);
        dueTold(x, "run that cannot be", x.run(5, 0, 2, 2), 1, 0, 1);
        dueTold(x, "run that must be", x.run(5, 0, 12, 0), 1, 1, 1);
    }

    private static void runRefused() {
        TwoGames x = some();
        due("run play 4", x.run(4, 0, 1, 0), BAD);
        due("run play -1", x.run(-1, 0, 1, 0), BAD);
        due("run before 4", x.run(3, 4, 1, 0), BAD);
        due("run before -1", x.run(3, -1, 1, 0), BAD);
        due("run many 0", x.run(3, 0, 0, 0), BAD);
        due("run many 13", x.run(3, 0, 13, 0), BAD);
        due("run many 32", x.run(3, 0, 32, 0), BAD);
        due("run ends -1", x.run(3, 0, 3, -1), BAD);
        due("run ends 8 of 3", x.run(3, 0, 3, 8), BAD);
        due("run ends 4096 of 12", x.run(3, 0, 12, 4096), BAD);
        due("run BAD ahead of UNLIKE", x.run(0, 0, 3, 8), BAD);
        due("run bad: finding", x.finding(), 0);
        for (int p = 0; p < 3; p++) {
            dueFinding(x, "run of no echo", UNLIKE, x.run(p, 0, 1, 0));
        }
        due("run: findings", x.findings(UNLIKE), 3);
    }

    private static void upperAndLower() {
        TwoGames x = some();
        due("upper before", x.upper(), 0);
        due("lower before", x.lower(), 1);
        lay(x, 0, 1);
        x.gain(0);
        due("upper below 0", x.upper(), -1);
        due("lower above 0", x.lower(), 3);
        x.rest(2);
        x.flat(3);
        due("upper stays", x.upper(), -1);
        due("lower stays", x.lower(), 3);
        x.leads(0, 0, 0);
        due("upper 0", x.upper(), 0);
        due("lower 1", x.lower(), 1);
    }

    private static void count() {
        TwoGames x = some();
        x.echo(0, 0, 0, 0);
        x.row(1, 0);
        x.row(3, 2);
        x.row(3, 1);
        x.rest(2);
        due("count plays", x.count(0), 5);
        due("count echoes", x.count(1), 2);
        due("count rows", x.count(2), 2);
        due("count m", x.count(3), 2);
        due("count 4", x.count(4), BAD);
        due("count -1", x.count(-1), BAD);
        due("count max", x.count(MAX), BAD);
    }

    private static void findings() {
        TwoGames x = some();
        due("finding before", x.finding(), 0);
        for (int f = NOTHING; f <= SIZE; f++) {
            due("findings before", x.findings(f), 0);
        }
        x.tear(0);
        x.tear(1);
        x.odds(2, 1);
        x.mark(2, 1);
        x.mean(2);
        x.row(0, -1);
        due("finding SIZE", x.finding(), SIZE);
        x.odds(0, 3);
        x.tear(7);
        x.play();
        due("finding stays", x.finding(), BEYOND);
        due("findings NOTHING", x.findings(NOTHING), 2);
        due("findings BEYOND", x.findings(BEYOND), 2);
        due("findings UNLIKE", x.findings(UNLIKE), 1);
        due("findings NOUGHT", x.findings(NOUGHT), 1);
        due("findings SIZE", x.findings(SIZE), 1);
        due("findings 0", x.findings(0), BAD);
        due("findings 6", x.findings(6), BAD);
        due("findings -1", x.findings(-1), BAD);
        due("findings min", x.findings(MIN), BAD);
    }

    private static void digest() {
        TwoGames x = new TwoGames();
        due("digest new", x.digest(), digestOf(3, -1, -1, -1, -1));
        x.rest(2);
        x.play();
        x.rested(3, 6, 9);
        x.echo(4, 1, 12, 2);
        x.flat(5);
        x.row(1, 0);
        x.row(2, 3);
        x.lay(2, 1, MAX);
        x.lay(2, 2, MIN);
        long want = digestOf(2, 0, 0, -9, -9, 1, 3, 3, 9, 3, 6, 9, 2, 4, 1, 12, 4, 1, 12, 2, 3, 1, 5, 5, 5,
            -1, 0, 3, 0, MAX, MIN, -1);
        due("digest", x.digest(), want);
        x.mark(0, 2);
        x.tear(9);
        due("digest after refusals", x.digest(), want);
    }
}
