/** Promises 16 to 24: rounds, shares, gains, lots, the best ones. */
public final class GainsTest extends Check {
    public static void main(String[] args) {
        leads();
        leadsByTwoAndOne();
        rowsRefused();
        share();
        settles();
        gain();
        refusedTellsNothing();
        lot();
        lotRefused();
        middle();
        bestRow();
        bestRowOfEquals();
        bestRowRefused();
        bestChoice();
        choiceStays();
        paradoxes();
        end("GainsTest");
    }

    /** Plays 0 rested 2 7 11, 1 flat 4, 2 always wins, 3 an echo. */
    private static TwoGames some() {
        TwoGames x = new TwoGames();
        x.rested(2, 7, 11);
        x.flat(4);
        x.play();
        x.echo(1, 2, 3, 4);
        return x;
    }

    private static void leads() {
        TwoGames x = some();
        lay(x, 0, 0);
        dueTold(x, "leads 0 0", x.leads(0, 0, 0), 1, 0, 1);
        dueTold(x, "leads 0 1", x.leads(0, 0, 1), 1, 1, 6);
        dueTold(x, "leads 0 2", x.leads(0, 0, 2), 1, 5, 6);
        dueTold(x, "leads 2 0", x.leads(0, 2, 0), 1, 11, 12);
        dueTold(x, "leads 2 1", x.leads(0, 2, 1), 1, 1, 12);
        lay(x, 1, 0, 1);
        dueTold(x, "leads two 1 2", x.leads(1, 1, 2), 1, 5, 18);
        dueTold(x, "leads two 2 0", x.leads(1, 2, 0), 1, 1, 18);
        lay(x, 2, 1, 0);
        dueTold(x, "leads two turned 1 2", x.leads(2, 1, 2), 1, 5, 9);
        dueTold(x, "leads two turned 0 0", x.leads(2, 0, 0), 1, 3, 4);
        x.flat(0);
        lay(x, 3, 2, 4);
        dueTold(x, "leads though it does not settle", x.leads(3, 2, 2), 1, 1, 1);
    }

    private static void leadsByTwoAndOne() {
        TwoGames x = some();
        x.rest(2);
        lay(x, 0, 0);
        dueTold(x, "leads by 2", x.leads(0, 0, 1), 1, 1, 1);
        dueTold(x, "leads by 2 back", x.leads(0, 1, 1), 1, 0, 1);
        due("leads by 2 from 2", x.leads(0, 2, 0), BAD);
        due("leads by 2 to 2", x.leads(0, 0, 2), BAD);
        x.rest(1);
        dueTold(x, "leads by 1", x.leads(0, 0, 0), 1, 1, 1);
        due("leads by 1 to 1", x.leads(0, 0, 1), BAD);
    }

    private static void rowsRefused() {
        TwoGames x = some();
        due("leads r 4", x.leads(4, 0, 0), BAD);
        due("leads r -1", x.leads(-1, 0, 0), BAD);
        due("leads from -1", x.leads(0, -1, 0), BAD);
        due("leads from 3", x.leads(0, 3, 0), BAD);
        due("leads to -1", x.leads(0, 0, MIN), BAD);
        due("leads to 3", x.leads(0, 0, MAX), BAD);
        due("share r 4", x.share(4, 0), BAD);
        due("share r -1", x.share(-1, 0), BAD);
        due("share rest 3", x.share(0, 3), BAD);
        due("share rest -1", x.share(0, -1), BAD);
        due("gain r 4", x.gain(4), BAD);
        due("gain r -1", x.gain(-1), BAD);
        due("bad: finding", x.finding(), 0);
        dueFinding(x, "leads missing", NOTHING, x.leads(0, 0, 0));
        dueFinding(x, "share missing", NOTHING, x.share(0, 0));
        dueFinding(x, "gain missing", NOTHING, x.gain(0));
        due("missing: findings", x.findings(NOTHING), 3);
        int[][] unfit = {{}, {3}, {0, 3}, {4}, {-1}, {0, 1, 2, 4}, {MAX}, {MIN, 0}};
        for (int[] row : unfit) {
            lay(x, 0, row);
            dueFinding(x, "leads unfit", UNLIKE, x.leads(0, 0, 0));
            dueFinding(x, "share unfit", UNLIKE, x.share(0, 0));
            dueFinding(x, "gain unfit", UNLIKE, x.gain(0));
        }
        due("unfit: findings", x.findings(UNLIKE), 3 * unfit.length);
    }

    private static void share() {
        TwoGames x = some();
        lay(x, 0, 0);
        dueTold(x, "share 0", x.share(0, 0), 1, 137, 305);
        dueTold(x, "share 1", x.share(0, 1), 1, 34, 305);
        dueTold(x, "share 2", x.share(0, 2), 1, 134, 305);
        lay(x, 0, 1, 0);
        dueTold(x, "share two 0", x.share(0, 0), 1, 332, 627);
        dueTold(x, "share two 1", x.share(0, 1), 1, 2, 33);
        x.rest(2);
        lay(x, 0, 0, 1, 2);
        dueTold(x, "share by 2", x.share(0, 1), 1, 1, 2);
        x.rest(1);
        dueTold(x, "share by 1", x.share(0, 0), 1, 1, 1);
    }

    private static void settles() {
        TwoGames x = some();
        x.rested(12, 0, 0);
        x.rested(0, 12, 12);
        lay(x, 0, 4, 2);
        due("share: two closed rests", x.share(0, 0), STATE);
        due("gain: two closed rests", x.gain(0), STATE);
        lay(x, 0, 5);
        dueTold(x, "share of a rest left for ever", x.share(0, 1), 1, 0, 1);
        dueTold(x, "share of a rest in a circle", x.share(0, 0), 1, 1, 2);
        x.rest(2);
        lay(x, 0, 0, 1);
        due("share: even row by 2", x.share(0, 0), STATE);
        due("gain: even row by 2", x.gain(0), STATE);
        due("share: BAD ahead of STATE", x.share(0, 2), BAD);
        lay(x, 0, 0, 1, 0, 1);
        due("gain: row of 4 by 2", x.gain(0), STATE);
        x.rest(1);
        due("gain: row of 4 by 1", x.gain(0), 2);
        due("settles: no finding", x.finding(), 0);
    }

    private static void gain() {
        TwoGames x = some();
        lay(x, 0, 0);
        dueTold(x, "gain", x.gain(0), 1, 26, 305);
        lay(x, 0, 0, 1);
        dueTold(x, "gain two", x.gain(0), 2, -41, 1254);
        lay(x, 0, 1, 0);
        dueTold(x, "gain two turned", x.gain(0), 2, -41, 1254);
        lay(x, 0, 2);
        dueTold(x, "gain play", x.gain(0), 1, 1, 1);
        x.rested(12, 0, 6);
        lay(x, 0, 4);
        dueTold(x, "gain even", x.gain(0), 0, 0, 1);
        x.rest(2);
        lay(x, 0, 0);
        dueTold(x, "gain by 2", x.gain(0), 2, -1, 4);
        lay(x, 0, 0, 1, 2);
        dueTold(x, "gain three by 2", x.gain(0), 1, 5, 36);
        x.rest(1);
        lay(x, 0, 0);
        dueTold(x, "gain by 1", x.gain(0), 2, -2, 3);
        x.rest(3);
        x.flat(5);
        x.rested(1, 9, 9);
        lay(x, 0, 5, 5, 6, 6);
        dueTold(x, "gain four", x.gain(0), 2, -1651691, 25655046);
    }

    private static void refusedTellsNothing() {
        TwoGames x = some();
        lay(x, 0, 0);
        x.gain(0);
        x.rest(2);
        lay(x, 0, 0, 0);
        due("STATE", x.gain(0), STATE);
        dueTold(x, "share STATE", x.share(0, 0), STATE, 26, 305);
        dueTold(x, "gain BAD", x.gain(9), BAD, 26, 305);
        dueTold(x, "lot UNLIKE", x.lot(0, 3, 1), FINDING, 26, 305);
        dueTold(x, "leads NOTHING", x.leads(1, 0, 0), FINDING, 26, 305);
        dueTold(x, "middle", x.middle(0, 2), 0, 26, 305);
        dueTold(x, "paradoxes", x.paradoxes(), 0, 26, 305);
        dueTold(x, "bestRow STATE", x.bestRow(2, 0), STATE, 26, 305);
    }

    private static void lot() {
        TwoGames x = new TwoGames();
        x.flat(5);
        x.rested(1, 9, 9);
        x.play();
        x.rested(12, 0, 6);
        dueTold(x, "lot 6", x.lot(0, 1, 6), 2, -39, 638);
        dueTold(x, "lot 12 is the first alone", x.lot(0, 1, 12), 2, -1, 6);
        dueTold(x, "lot 0 is the other alone", x.lot(0, 1, 0), 2, -3, 202);
        dueTold(x, "lot of one", x.lot(1, 1, 7), 2, -3, 202);
        dueTold(x, "lot with a play", x.lot(2, 0, 3), 1, 1, 8);
        dueTold(x, "lot even", x.lot(3, 3, 5), 0, 0, 1);
        x.rest(2);
        dueTold(x, "lot by 2", x.lot(0, 1, 6), 2, -1, 6);
        x.rest(1);
        dueTold(x, "lot by 1", x.lot(0, 1, 6), 2, -1, 2);
    }

    private static void lotRefused() {
        TwoGames x = some();
        due("lot one 4", x.lot(4, 0, 1), BAD);
        due("lot one -1", x.lot(-1, 0, 1), BAD);
        due("lot other 4", x.lot(0, 4, 1), BAD);
        due("lot other -1", x.lot(0, -1, 1), BAD);
        due("lot u 13", x.lot(0, 1, 13), BAD);
        due("lot u -1", x.lot(3, 1, -1), BAD);
        due("lot bad: finding", x.finding(), 0);
        dueFinding(x, "lot echo first", UNLIKE, x.lot(3, 0, 0));
        dueFinding(x, "lot echo other", UNLIKE, x.lot(0, 3, 12));
        due("middle one 4", x.middle(4, 0), BAD);
        due("middle one -1", x.middle(-1, 0), BAD);
        due("middle other 4", x.middle(3, 4), BAD);
        due("middle other -1", x.middle(0, -1), BAD);
        dueFinding(x, "middle echo first", UNLIKE, x.middle(3, 0));
        dueFinding(x, "middle echo other", UNLIKE, x.middle(0, 3));
        due("lot, middle: findings", x.findings(UNLIKE), 4);
    }

    private static void middle() {
        TwoGames x = new TwoGames();
        x.flat(3);
        x.flat(7);
        x.flat(6);
        x.play();
        x.flat(0);
        due("middle 7 of 3: 9 parts are even", x.middle(1, 0), 10);
        due("middle 3 of 7", x.middle(0, 1), 0);
        due("middle 3 of 3", x.middle(0, 0), NONE);
        due("middle 6 of 3 is at most even", x.middle(2, 0), NONE);
        due("middle 7 of 6", x.middle(1, 2), 1);
        due("middle 12 of 0", x.middle(3, 4), 7);
        due("middle 7 of 0", x.middle(1, 4), 11);
        x.rested(6, 6, 7);
        due("middle with all parts alone", x.middle(5, 4), 12);
        due("middle: finding", x.finding(), 0);
    }

    private static void bestRow() {
        TwoGames x = new TwoGames();
        x.flat(5);
        x.rested(1, 9, 9);
        x.echo(12, 12, 12, 12);
        dueTold(x, "bestRow 1", x.bestRow(1, 0), 1, -3, 202);
        due("bestRow 1 place 0", x.lay(0, 0, 1), 1001);
        due("bestRow 1 size", x.lay(0, 1, 1), FINDING);
        dueTold(x, "bestRow 2", x.bestRow(2, 0), 1, -3, 202);
        dueTold(x, "bestRow 3", x.bestRow(3, 3), 1, 20201, 2812122);
        due("bestRow 3: rows", x.count(2), 2);
        int[] want = {0, 1, 1};
        for (int i = 0; i < 3; i++) {
            due("bestRow 3 place " + i, x.lay(3, i, want[i]), 1000 + want[i]);
        }
        dueTold(x, "bestRow 3: gain", x.gain(3), 1, 20201, 2812122);
        dueTold(x, "bestRow 4", x.bestRow(4, 3), 1, -3, 202);
        for (int i = 0; i < 4; i++) {
            due("bestRow 4 place " + i, x.lay(3, i, 0), 1001);
        }
    }

    private static void bestRowOfEquals() {
        TwoGames x = new TwoGames();
        x.echo(12, 12, 12, 12);
        x.flat(7);
        x.rested(7, 7, 7);
        x.flat(2);
        dueTold(x, "bestRow of equals", x.bestRow(3, 1), 1, 1, 6);
        for (int i = 0; i < 3; i++) {
            due("bestRow of equals place " + i, x.lay(1, i, 0), 1001);
        }
        x.rest(2);
        dueTold(x, "bestRow of equals by 2", x.bestRow(1, 1), 1, 1, 6);
        due("bestRow of equals by 2 place", x.lay(1, 0, 0), 1001);
    }

    private static void bestRowRefused() {
        TwoGames x = new TwoGames();
        due("bestRow without plays", x.bestRow(1, 0), STATE);
        x.echo(1, 1, 1, 1);
        due("bestRow of echoes", x.bestRow(2, 0), STATE);
        x.flat(3);
        x.rest(2);
        x.row(1, 3);
        long d = x.digest();
        due("bestRow 2 by 2", x.bestRow(2, 1), STATE);
        due("bestRow 4 by 2", x.bestRow(4, 1), STATE);
        due("bestRow n 0", x.bestRow(0, 1), BAD);
        due("bestRow n 5", x.bestRow(5, 1), BAD);
        due("bestRow n -1", x.bestRow(-1, 1), BAD);
        due("bestRow to 4", x.bestRow(2, 4), BAD);
        due("bestRow to -1", x.bestRow(2, -1), BAD);
        due("bestRow refused: digest", x.digest(), d);
        due("bestRow refused: finding", x.finding(), 0);
        due("bestRow 3 by 2", x.bestRow(3, 1), 1);
    }

    private static void bestChoice() {
        TwoGames x = new TwoGames();
        due("bestChoice without plays", x.bestChoice(), STATE);
        x.echo(12, 12, 12, 12);
        due("bestChoice of echoes", x.bestChoice(), STATE);
        due("bestChoice refused: choice", x.choice(0), NONE);
        x.flat(5);
        x.rested(1, 9, 9);
        x.rested(5, 9, 0);
        dueTold(x, "bestChoice", x.bestChoice(), 1, 57, 218);
        due("choice 0", x.choice(0), 1);
        due("choice 1", x.choice(1), 2);
        due("choice 2", x.choice(2), 2);
        due("choice 3", x.choice(3), NONE);
        due("choice -1", x.choice(-1), NONE);
        due("choice min", x.choice(MIN), NONE);
        due("choice max", x.choice(MAX), NONE);
        due("choice: finding", x.finding(), 0);
    }

    private static void choiceStays() {
        TwoGames x = new TwoGames();
        x.rested(3, 8, 1);
        x.rested(4, 2, 1);
        x.rest(2);
        dueTold(x, "bestChoice by 2", x.bestChoice(), 1, 0, 1);
        due("choice by 2: 0", x.choice(0), 1);
        due("choice by 2: 1", x.choice(1), 0);
        due("choice by 2: 2", x.choice(2), NONE);
        x.rest(3);
        x.play();
        due("choice of the latest: 2", x.choice(2), NONE);
        due("choice of the latest: 1", x.choice(1), 0);
        due("bestChoice by 3", x.bestChoice(), 1);
        x.rest(1);
        due("choice stays at rest 2", x.choice(2), 2);
        dueTold(x, "bestChoice by 1", x.bestChoice(), 1, 1, 1);
        due("choice by 1: 0", x.choice(0), 2);
        due("choice by 1: 1", x.choice(1), NONE);
        due("choice by 1: 2", x.choice(2), NONE);
    }

    /**
     * Two plays by turns walk over the rests by 6, each play at every rest once, so two that lose
     * cannot win so: none is due. What is told here are pairs that a laxer count would take.
     */
    private static void paradoxes() {
        TwoGames x = new TwoGames();
        due("paradoxes without plays", x.paradoxes(), 0);
        x.flat(7);
        x.rested(8, 8, 8);
        due("paradoxes of winners", x.paradoxes(), 0);
        x.flat(5);
        due("paradoxes of a loser and winners", x.paradoxes(), 0);
        x.flat(6);
        x.play();
        x.echo(0, 0, 0, 0);
        due("paradoxes with an even one, a play, an echo", x.paradoxes(), 0);
        x.rested(1, 9, 9);
        x.rested(2, 11, 3);
        due("paradoxes of losers", x.paradoxes(), 0);
        x.rest(2);
        due("paradoxes by 2", x.paradoxes(), 0);
        x.rest(1);
        due("paradoxes by 1", x.paradoxes(), 0);
    }
}
