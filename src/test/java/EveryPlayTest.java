import java.util.ArrayList;
import java.util.List;

/**
 * Every play that there can be, by every m. It also shows why some answers never come, so that no other
 * test can wait for them: a round of one turn always settles (promises 18, 19, 20, 22), and no two plays
 * that lose win by turns (promise 24).
 */
public final class EveryPlayTest extends Check {
    private static final int EVERY = 13 * 13 * 13;
    /** Sure to lose, open, sure to win: whether a round settles hangs on no more than this. */
    private static final int[] SURE_OR_OPEN = {0, 6, 12};
    /** Five calls ahead and five for each pair stay within 512. */
    private static final int PAIRS_OF_AN_OBJECT = 100;

    public static void main(String[] args) {
        for (int m = 1; m <= 3; m++) {
            everyPlayAlone(m);
            everyLotAndChoiceSettles(m);
            noTwoLosersWin(m);
        }
        end("EveryPlayTest");
    }

    /** The digits of k by 13. */
    private static int[] oddsOf(int k) {
        return new int[] {k % 13, k / 13 % 13, k / 169};
    }

    /**
     * Below, at, above 0 as the gain of a play alone, by a way that needs no shares: by 1 the rest is
     * always 0; by 2 it is 0 and 1 by turns; by 3 it is won just if three wins, one at each rest, are
     * likelier than three losses.
     */
    private static int signDue(int m, int[] a) {
        if (m == 1) {
            return Integer.compare(a[0], 6);
        }
        if (m == 2) {
            return Integer.compare(a[0] + a[1], 12);
        }
        return Integer.compare(a[0] * a[1] * a[2], (12 - a[0]) * (12 - a[1]) * (12 - a[2]));
    }

    private static TwoGames twoPlays(int m, int[] a, int[] b) {
        TwoGames x = new TwoGames();
        x.rest(m);
        x.rested(a[0], a[1], a[2]);
        x.rested(b[0], b[1], b[2]);
        return x;
    }

    /** Promise 18: "1 it WINS, 0 EVEN, 2 it LOSES", and never STATE for a row of one. */
    private static void everyPlayAlone(int m) {
        for (int k = 0; k < EVERY; k++) {
            int[] a = oddsOf(k);
            int sign = signDue(m, a);
            String call = "18 gain of " + a[0] + ", " + a[1] + ", " + a[2] + " by " + m;
            TwoGames x = twoPlays(m, a, a);
            x.row(0, 1);
            due(call, x.gain(0), sign < 0 ? 2 : sign);
            due(call + ", its sign", Long.signum(x.upper()), sign);
        }
    }

    private static List<int[]> sureOrOpen() {
        List<int[]> plays = new ArrayList<>();
        for (int a : SURE_OR_OPEN) {
            for (int b : SURE_OR_OPEN) {
                for (int c : SURE_OR_OPEN) {
                    plays.add(new int[] {a, b, c});
                }
            }
        }
        return plays;
    }

    /** Promises 19, 22: "STATE", which no lot, and no choice of plays that are there, ever answers. */
    private static void everyLotAndChoiceSettles(int m) {
        for (int[] a : sureOrOpen()) {
            for (int[] b : sureOrOpen()) {
                TwoGames x = twoPlays(m, a, b);
                for (int u : SURE_OR_OPEN) {
                    due("19 lot settles by " + m, Math.min(x.lot(0, 1, u), 0), 0);
                }
                due("22 a choice settles by " + m, x.bestChoice(), 1);
            }
        }
    }

    private static List<int[]> losers(int m) {
        List<int[]> losers = new ArrayList<>();
        for (int k = 0; k < EVERY; k++) {
            if (signDue(m, oddsOf(k)) < 0) {
                losers.add(oddsOf(k));
            }
        }
        return losers;
    }

    /**
     * Promise 24: "WIN by turns". Two plays by turns meet each rest once with each of them, so by 3 the
     * wins of a circle are those of both, and losses outweigh them; by 2 a row of two does not settle.
     */
    private static void noTwoLosersWin(int m) {
        List<int[]> losers = losers(m);
        for (int[] a : losers) {
            for (int from = 0; from < losers.size(); from += PAIRS_OF_AN_OBJECT) {
                int to = Math.min(from + PAIRS_OF_AN_OBJECT, losers.size());
                dueNoWinner(m, a, losers.subList(from, to));
            }
        }
    }

    private static void dueNoWinner(int m, int[] a, List<int[]> others) {
        TwoGames x = twoPlays(m, a, a);
        x.row(0, 2);
        x.lay(0, 1, 1);
        for (int[] b : others) {
            for (int i = 0; i < 3; i++) {
                x.change(1, i, b[i]);
            }
            due("18 two losers by turns by " + m, x.gain(0), m == 2 ? STATE : 2);
            due("24 two losers by " + m, x.paradoxes(), 0);
        }
    }
}
