import java.math.BigInteger;
import java.util.ArrayList;
import java.util.Arrays;
import java.util.List;

/**
 * Runs of up to 512 calls, good and bad ones mixed, on an object and on a plain model: every answer
 * must be the same, and behind every call the fraction told and the digest; the findings, the counts
 * and the choice are compared by turns, and all of them at the end. The model walks every path and
 * solves the equations in fractions; it shares no method with the class.
 */
public final class ModelTest {
    private static final int RUNS = 1200;
    /** What an object answers behind its 512th call is free. */
    private static final int MOST_CALLS = 512;
    private static final int MOST_IN_A_STEP = 10;
    private static final int STATE_PARTS = 13;
    private static int wrong = 0;

    public static void main(String[] args) {
        for (int run = 0; run < RUNS && wrong < 20; run++) {
            new Driver(run).go();
        }
        System.out.println(wrong == 0 ? "ModelTest: as due" : wrong + " answers are not as due");
        if (wrong != 0) {
            System.exit(1);
        }
    }

    /** Draws the calls of one run; the same run always draws the same ones. */
    private static final class Driver {
        private final int run;
        private long seed;
        private int made = 0;
        private final TwoGames x = new TwoGames();
        private final Model y = new Model();

        Driver(int run) {
            this.run = run;
            this.seed = run * 7919L + 12345;
        }

        private int draw(int n) {
            seed = seed * 6364136223846793005L + 1442695040888963407L;
            return (int) ((seed >>> 33) % n);
        }

        /** Mostly lo .. hi, now and then just outside, seldom far outside. */
        private int near(int lo, int hi) {
            int kind = draw(60);
            if (kind == 0) {
                return draw(2) == 0 ? Integer.MIN_VALUE : Integer.MAX_VALUE;
            }
            if (kind < 4) {
                return draw(2) == 0 ? lo - 1 : hi + 1;
            }
            return lo + draw(hi - lo + 1);
        }

        private int odds() {
            int kind = draw(4);
            return kind == 0 ? 0 : kind == 1 ? 12 : near(0, 12);
        }

        private int number() {
            return near(0, Math.max(0, y.plays.size() - 1));
        }

        void go() {
            for (int call = 0; made + MOST_IN_A_STEP + STATE_PARTS <= MOST_CALLS && wrong < 20; call++) {
                step(call);
                due(call, "upper", x.upper(), y.upper.longValueExact());
                due(call, "lower", x.lower(), y.lower.longValueExact());
                due(call, "digest", x.digest(), y.digest());
                duePart(call, call % STATE_PARTS);
            }
            for (int part = 0; part < STATE_PARTS; part++) {
                duePart(-1, part);
            }
        }

        /** One of the things told that seldom change: the findings, the counts, the choice. */
        private void duePart(int call, int part) {
            if (part == 0) {
                due(call, "finding", x.finding(), y.finding);
            } else if (part < 6) {
                due(call, "findings", x.findings(part), y.findings[part]);
            } else if (part < 10) {
                due(call, "count", x.count(part - 6), y.count(part - 6));
            } else {
                due(call, "choice", x.choice(part - 10), y.choice[part - 10]);
            }
        }

        /** Every one of these is one call on the object, so they are counted here. */
        private void due(int call, String what, long got, long want) {
            made++;
            if (got != want) {
                wrong++;
                System.out.println("run " + run + " call " + call + ": " + what + " answered " + got
                    + ", due is " + want);
            }
        }

        private void step(int call) {
            int which = draw(call < 12 ? 10 : 40);
            if (which < 10) {
                makeSome(call, which);
            } else if (which < 20) {
                changeSome(call, which);
            } else if (which < 30) {
                askGains(call, which);
            } else {
                askTurns(call, which);
            }
        }

        private void makeSome(int call, int which) {
            // Few plays in most runs, so that the model's search stays quick.
            boolean enough = y.plays.size() >= (run % 40 == 0 ? 9 : 4) && draw(20) != 0;
            if (which < 6 && enough) {
                return;
            }
            int a = odds(), b = odds(), c = odds(), d = odds();
            switch (which) {
                case 0: due(call, "play", x.play(), y.play()); break;
                case 1: case 2: case 3:
                    due(call, "rested", x.rested(a, b, c), y.made(1, a, b, c)); break;
                case 4: due(call, "echo", x.echo(a, b, c, d), y.made(2, a, b, c, d)); break;
                case 5: due(call, "flat", x.flat(a), y.made(3, a)); break;
                case 6:
                    int m = draw(3) == 0 ? near(1, 3) : 3;
                    due(call, "rest", x.rest(m), y.rest(m)); break;
                default:
                    int r = near(0, 3), n = near(0, 4);
                    due(call, "row", x.row(r, n), y.row(r, n));
                    layAll(call, r, n);
            }
        }

        private void layAll(int call, int r, int n) {
            for (int i = 0; i < n && i < 5 && draw(10) != 0; i++) {
                int v = number();
                due(call, "lay", x.lay(r, i, v), y.lay(r, i, v));
            }
        }

        private void changeSome(int call, int which) {
            int p = number(), i = near(0, 3), v = odds(), r = near(0, 3), to = near(0, 3);
            int j = near(0, 3), n = near(0, 3), w = number();
            switch (which) {
                case 10: due(call, "told", x.told(p, i), y.told(p, i)); break;
                case 11: due(call, "mark", x.mark(p, i), y.mark(p, i)); break;
                case 12: due(call, "odds", x.odds(p, i), y.odds(p, i)); break;
                case 13: case 14: due(call, "change", x.change(p, i, v), y.change(p, i, v)); break;
                case 15: due(call, "mean", x.mean(p), y.mean(p)); break;
                case 16: due(call, "lay", x.lay(r, i, w), y.lay(r, i, w)); break;
                case 17: if (draw(3) == 0) due(call, "tear", x.tear(r), y.tear(r)); break;
                default: due(call, "copy", x.copy(r, i, to, j, n), y.copy(r, i, to, j, n)); break;
            }
        }

        private void askGains(int call, int which) {
            int r = near(0, 3), from = near(0, 2), to = near(0, 2), p = number(), q = number();
            int u = near(0, 12), n = near(1, 4), k = near(0, 3);
            switch (which) {
                case 20: case 21: due(call, "leads", x.leads(r, from, to), y.leads(r, from, to)); break;
                case 22: due(call, "share", x.share(r, from), y.share(r, from)); break;
                case 23: case 24: due(call, "gain", x.gain(r), y.gain(r)); break;
                case 25: due(call, "lot", x.lot(p, q, u), y.lot(p, q, u)); break;
                case 26: due(call, "middle", x.middle(p, q), y.middle(p, q)); break;
                case 27:
                    if (draw(4) == 0) due(call, "bestRow", x.bestRow(n, k), y.bestRow(n, k)); break;
                case 28: due(call, "bestChoice", x.bestChoice(), y.bestChoice()); break;
                default: due(call, "paradoxes", x.paradoxes(), y.paradoxes()); break;
            }
        }

        private void askTurns(int call, int which) {
            int r = near(0, 3), p = number(), purse = near(-20, 20), n = near(0, 9);
            int then = draw(3) == 0 ? near(-40, 40) : purse + draw(21) - 10;
            int lo = near(-20, 18), at = lo + 1 + draw(5), hi = at + (draw(9) == 0 ? 0 : 1 + draw(5));
            int before = near(0, 3), many = near(1, 12), bits = near(0, (1 << (many & 15)) - 1);
            switch (which % 5) {
                case 0: due(call, "after", x.after(r, purse, n, then), y.after(r, purse, n, then)); break;
                case 1: due(call, "meanAfter", x.meanAfter(r, purse, n), y.meanAfter(r, purse, n)); break;
                case 2: case 3: due(call, "ends", x.ends(p, lo, at, hi), y.ends(p, lo, at, hi)); break;
                default:
                    due(call, "run", x.run(p, before, many, bits), y.run(p, before, many, bits)); break;
            }
        }
    }

    /** A fraction in lowest terms. */
    private static final class Q {
        static final Q ZERO = new Q(BigInteger.ZERO, BigInteger.ONE);
        static final Q ONE = new Q(BigInteger.ONE, BigInteger.ONE);
        final BigInteger up, low;

        Q(BigInteger up, BigInteger low) {
            BigInteger g = up.gcd(low).multiply(BigInteger.valueOf(low.signum()));
            this.up = up.divide(g);
            this.low = low.divide(g);
        }

        static Q of(long up, long low) {
            return new Q(BigInteger.valueOf(up), BigInteger.valueOf(low));
        }

        Q plus(Q q) {
            return new Q(up.multiply(q.low).add(q.up.multiply(low)), low.multiply(q.low));
        }

        Q minus(Q q) {
            return plus(new Q(q.up.negate(), q.low));
        }

        Q times(Q q) {
            return new Q(up.multiply(q.up), low.multiply(q.low));
        }

        Q by(Q q) {
            return new Q(up.multiply(q.low), low.multiply(q.up));
        }

        int sign() {
            return up.signum();
        }
    }

    /** Solves rows of equations (the last column is the right side); null if not one solution alone. */
    private static Q[] solve(Q[][] rows, int unknowns) {
        int done = 0;
        for (int c = 0; c < unknowns; c++) {
            int pivot = done;
            while (pivot < rows.length && rows[pivot][c].sign() == 0) {
                pivot++;
            }
            if (pivot == rows.length) {
                return null;
            }
            Q[] swap = rows[pivot];
            rows[pivot] = rows[done];
            rows[done] = swap;
            for (int i = 0; i < rows.length; i++) {
                if (i != done && rows[i][c].sign() != 0) {
                    Q f = rows[i][c].by(rows[done][c]);
                    for (int k = 0; k <= unknowns; k++) {
                        rows[i][k] = rows[i][k].minus(f.times(rows[done][k]));
                    }
                }
            }
            done++;
        }
        Q[] answer = new Q[unknowns];
        for (int c = 0; c < unknowns; c++) {
            answer[c] = rows[c][unknowns].by(rows[c][c]);
        }
        return answer;
    }

    /** The chance to win at each rest, one array for each turn of a round. */
    private static final class Turns {
        final List<Q[]> wins = new ArrayList<>();
    }

    private static final class Model {
        static final int BAD = -1, FULL = -2, FINDING = -3, STATE = -4, NONE = -9;
        final List<int[]> plays = new ArrayList<>(); // the kind, then the odds
        final int[][] rows = new int[4][];
        final int[] choice = {NONE, NONE, NONE};
        final int[] findings = new int[6];
        int m = 3, finding = 0;
        BigInteger upper = BigInteger.ZERO, lower = BigInteger.ONE;

        int found(int f) {
            finding = f;
            findings[f]++;
            return FINDING;
        }

        int tell(Q q) {
            upper = q.up;
            lower = q.low;
            return 1;
        }

        boolean in(int v, int lo, int hi) {
            return lo <= v && v <= hi;
        }

        boolean isPlay(int p) {
            return in(p, 0, plays.size() - 1);
        }

        int rest(int v) {
            int was = m;
            if (!in(v, 1, 3)) {
                return BAD;
            }
            m = v;
            return was;
        }

        int play() {
            return made(0);
        }

        int made(int kind, int... odds) {
            int[] all = new int[odds.length + 1];
            all[0] = kind;
            for (int i = 0; i < odds.length; i++) {
                if (!in(odds[i], 0, 12)) {
                    return BAD;
                }
                all[i + 1] = odds[i];
            }
            if (plays.size() == 8) {
                return FULL;
            }
            plays.add(all);
            return plays.size() - 1;
        }

        int told(int p, int what) {
            if (!isPlay(p) || !in(what, 0, 3)) {
                return BAD;
            }
            int[] it = plays.get(p);
            int[] odds = Arrays.copyOfRange(it, 1, it.length);
            Arrays.sort(odds);
            int none = odds.length == 0 ? NONE : 0;
            return what == 0 ? it[0] : what == 1 ? odds.length : none == NONE ? NONE
                : what == 2 ? odds[0] : odds[odds.length - 1];
        }

        int mark(int p, int kind) {
            if (!isPlay(p) || !in(kind, 1, 3)) {
                return BAD;
            }
            int[] it = plays.get(p);
            if (kind == 1 && (it[0] == 1 || it[0] == 3)) {
                return it[1];
            }
            if (kind == 2 && it[0] == 2) {
                return it[4];
            }
            return kind == 3 && it[0] == 3 ? it[1] - 6 : found(3);
        }

        int odds(int p, int i) {
            if (!isPlay(p)) {
                return BAD;
            }
            int[] it = plays.get(p);
            if (it[0] == 0) {
                return i == 0 ? 12 : found(2);
            }
            if (it[0] == 3) {
                return in(i, 0, 2) ? it[1] : found(2);
            }
            return in(i, 0, it.length - 2) ? it[i + 1] : found(2);
        }

        int change(int p, int i, int v) {
            if (!isPlay(p) || !in(v, 0, 12)) {
                return BAD;
            }
            int[] it = plays.get(p);
            if (it[0] == 0) {
                return found(3);
            }
            if (!in(i, 0, it.length - 2)) {
                return found(2);
            }
            int was = it[i + 1];
            it[i + 1] = v;
            return was;
        }

        int mean(int p) {
            if (!isPlay(p)) {
                return BAD;
            }
            int[] it = plays.get(p);
            int sum = 0;
            for (int i = 1; i < it.length; i++) {
                sum += it[i];
            }
            return it.length == 1 ? found(4) : sum / (it.length - 1);
        }

        int row(int r, int n) {
            if (!in(r, 0, 3) || n > 4) {
                return BAD;
            }
            if (n < 0) {
                return found(5);
            }
            rows[r] = new int[n];
            return n;
        }

        int lay(int r, int i, int v) {
            if (!in(r, 0, 3)) {
                return BAD;
            }
            if (rows[r] == null) {
                return found(1);
            }
            if (!in(i, 0, rows[r].length - 1)) {
                return found(2);
            }
            int was = rows[r][i];
            rows[r][i] = v;
            return was + 1000;
        }

        int tear(int r) {
            if (!in(r, 0, 3)) {
                return BAD;
            }
            if (rows[r] == null) {
                return found(1);
            }
            rows[r] = null;
            return 1;
        }

        int copy(int r, int i, int to, int j, int n) {
            if (!in(r, 0, 3) || !in(to, 0, 3)) {
                return BAD;
            }
            if (n < 0) {
                return found(5);
            }
            if (rows[r] == null || rows[to] == null) {
                return found(1);
            }
            if (i < 0 || j < 0 || (long) i + n > rows[r].length || (long) j + n > rows[to].length) {
                return found(2);
            }
            int[] taken = rows[r].clone();
            for (int k = 0; k < n; k++) {
                rows[to][j + k] = taken[i + k];
            }
            return 1;
        }

        boolean fit(int[] row) {
            for (int p : row) {
                if (!isPlay(p) || plays.get(p)[0] == 2) {
                    return false;
                }
            }
            return row.length > 0;
        }

        /** 0, or what a call is refused with whose row is not there or not fit. */
        int refused(int r) {
            return rows[r] == null ? found(1) : fit(rows[r]) ? 0 : found(3);
        }

        Q win(int p, int rest) {
            int[] it = plays.get(p);
            return it[0] == 0 ? Q.ONE : Q.of(it[it[0] == 3 ? 1 : rest + 1], 12);
        }

        Turns turns(int... row) {
            Turns t = new Turns();
            for (int p : row) {
                Q[] wins = new Q[m];
                for (int rest = 0; rest < m; rest++) {
                    wins[rest] = win(p, rest);
                }
                t.wins.add(wins);
            }
            return t;
        }

        /** The chance of one path: bit k of it says how turn k ends. */
        Q path(Turns t, int from, int path) {
            Q chance = Q.ONE;
            int purse = from;
            for (int k = 0; k < t.wins.size(); k++) {
                Q win = t.wins.get(k)[Math.floorMod(purse, m)];
                boolean won = (path >> k & 1) == 1;
                chance = chance.times(won ? win : Q.ONE.minus(win));
                purse += won ? 1 : -1;
            }
            return chance;
        }

        Q[][] matrix(Turns t) {
            Q[][] lead = new Q[m][m];
            int n = t.wins.size();
            for (int from = 0; from < m; from++) {
                Arrays.fill(lead[from], Q.ZERO);
                for (int path = 0; path < 1 << n; path++) {
                    int to = Math.floorMod(from + 2 * Integer.bitCount(path) - n, m);
                    lead[from][to] = lead[from][to].plus(path(t, from, path));
                }
            }
            return lead;
        }

        Q[] shares(Turns t) {
            Q[][] lead = matrix(t);
            Q[][] equations = new Q[m + 1][m + 1];
            for (int to = 0; to < m; to++) {
                for (int from = 0; from < m; from++) {
                    equations[to][from] = from == to ? lead[from][to].minus(Q.ONE) : lead[from][to];
                }
                equations[to][m] = Q.ZERO;
            }
            Arrays.fill(equations[m], Q.ONE);
            return solve(equations, m);
        }

        /** The gain, or null if it does not settle. */
        Q gained(Turns t) {
            Q[] shares = shares(t);
            if (shares == null) {
                return null;
            }
            Q sum = Q.ZERO;
            int n = t.wins.size();
            for (int from = 0; from < m; from++) {
                for (int path = 0; path < 1 << n; path++) {
                    Q gain = Q.of(2 * Integer.bitCount(path) - n, n);
                    sum = sum.plus(shares[from].times(path(t, from, path)).times(gain));
                }
            }
            return sum;
        }

        int outcome(Q gain) {
            if (gain == null) {
                return STATE;
            }
            tell(gain);
            return gain.sign() > 0 ? 1 : gain.sign() == 0 ? 0 : 2;
        }

        int leads(int r, int from, int to) {
            if (!in(r, 0, 3) || !in(from, 0, m - 1) || !in(to, 0, m - 1)) {
                return BAD;
            }
            int refused = refused(r);
            return refused != 0 ? refused : tell(matrix(turns(rows[r]))[from][to]);
        }

        int share(int r, int rest) {
            if (!in(r, 0, 3) || !in(rest, 0, m - 1)) {
                return BAD;
            }
            int refused = refused(r);
            if (refused != 0) {
                return refused;
            }
            Q[] shares = shares(turns(rows[r]));
            return shares == null ? STATE : tell(shares[rest]);
        }

        int gain(int r) {
            if (!in(r, 0, 3)) {
                return BAD;
            }
            int refused = refused(r);
            return refused != 0 ? refused : outcome(gained(turns(rows[r])));
        }

        Q lotGain(int one, int other, int u) {
            Q[] wins = new Q[m];
            for (int rest = 0; rest < m; rest++) {
                wins[rest] = Q.of(u, 12).times(win(one, rest)).plus(Q.of(12 - u, 12).times(win(other, rest)));
            }
            Turns t = new Turns();
            t.wins.add(wins);
            return gained(t);
        }

        int lot(int one, int other, int u) {
            if (!isPlay(one) || !isPlay(other) || !in(u, 0, 12)) {
                return BAD;
            }
            return fit(new int[] {one, other}) ? outcome(lotGain(one, other, u)) : found(3);
        }

        int middle(int one, int other) {
            if (!isPlay(one) || !isPlay(other)) {
                return BAD;
            }
            if (!fit(new int[] {one, other})) {
                return found(3);
            }
            for (int u = 0; u <= 12; u++) {
                Q gain = lotGain(one, other, u);
                if (gain != null && gain.sign() > 0) {
                    return u;
                }
            }
            return NONE;
        }

        /** The digits of a code with so many places, the first one counting most. */
        int[] digits(int code, int places) {
            int[] digits = new int[places];
            for (int i = places - 1; i >= 0; i--) {
                digits[i] = code % plays.size();
                code /= plays.size();
            }
            return digits;
        }

        int codes(int places) {
            int codes = 1;
            for (int i = 0; i < places; i++) {
                codes *= plays.size();
            }
            return codes;
        }

        int bestRow(int n, int to) {
            if (!in(n, 1, 4) || !in(to, 0, 3)) {
                return BAD;
            }
            Q best = null;
            int[] bestRow = null;
            for (int code = 0; code < codes(n); code++) {
                int[] row = digits(code, n);
                Q gain = fit(row) ? gained(turns(row)) : null;
                if (gain != null && (best == null || gain.minus(best).sign() > 0)) {
                    best = gain;
                    bestRow = row;
                }
            }
            if (best == null) {
                return STATE;
            }
            rows[to] = bestRow;
            return tell(best);
        }

        int bestChoice() {
            Q best = null;
            int[] bestChoice = null;
            for (int code = 0; code < codes(m); code++) {
                int[] tried = digits(code, m);
                Q gain = fit(tried) ? choiceGain(tried) : null;
                if (gain != null && (best == null || gain.minus(best).sign() > 0)) {
                    best = gain;
                    bestChoice = tried;
                }
            }
            if (best == null) {
                return STATE;
            }
            Arrays.fill(choice, NONE);
            System.arraycopy(bestChoice, 0, choice, 0, m);
            return tell(best);
        }

        Q choiceGain(int[] tried) {
            Q[] wins = new Q[m];
            for (int rest = 0; rest < m; rest++) {
                wins[rest] = win(tried[rest], rest);
            }
            Turns t = new Turns();
            t.wins.add(wins);
            return gained(t);
        }

        boolean has(int sign, int... row) {
            Q gain = fit(row) ? gained(turns(row)) : null;
            return gain != null && gain.sign() == sign;
        }

        int paradoxes() {
            int pairs = 0;
            for (int p = 0; p < plays.size(); p++) {
                for (int q = p + 1; q < plays.size(); q++) {
                    pairs += has(-1, p) && has(-1, q) && has(1, p, q) ? 1 : 0;
                }
            }
            return pairs;
        }

        Turns turnsOver(int[] row, int n) {
            int[] over = new int[n];
            for (int k = 0; k < n; k++) {
                over[k] = row[k % row.length];
            }
            return turns(over);
        }

        int after(int r, int purse, int n, int then) {
            if (!in(r, 0, 3) || !in(n, 0, 9) || !in(purse, -20, 20) || !in(then, -40, 40)) {
                return BAD;
            }
            int refused = refused(r);
            if (refused != 0) {
                return refused;
            }
            Turns t = turnsOver(rows[r], n);
            Q chance = Q.ZERO;
            for (int path = 0; path < 1 << n; path++) {
                if (purse + 2 * Integer.bitCount(path) - n == then) {
                    chance = chance.plus(path(t, purse, path));
                }
            }
            return tell(chance);
        }

        int meanAfter(int r, int purse, int n) {
            if (!in(r, 0, 3) || !in(n, 0, 9) || !in(purse, -20, 20)) {
                return BAD;
            }
            int refused = refused(r);
            if (refused != 0) {
                return refused;
            }
            Turns t = turnsOver(rows[r], n);
            Q mean = Q.ZERO;
            for (int path = 0; path < 1 << n; path++) {
                Q then = Q.of(purse + 2 * Integer.bitCount(path) - n, 1);
                mean = mean.plus(then.times(path(t, purse, path)));
            }
            return tell(mean);
        }

        int ends(int p, int lo, int purse, int hi) {
            if (!isPlay(p) || !in(lo, -20, 20) || !in(purse, -20, 20) || !in(hi, -20, 20)
                || lo >= purse || purse >= hi || hi - lo > 9) {
                return BAD;
            }
            if (plays.get(p)[0] != 1 && plays.get(p)[0] != 3) {
                return found(3);
            }
            int n = hi - lo - 1;
            Q[][] equations = new Q[n][n + 1];
            for (int i = 0; i < n; i++) {
                Arrays.fill(equations[i], Q.ZERO);
                Q win = win(p, Math.floorMod(lo + 1 + i, m));
                equations[i][i] = Q.ONE;
                if (i > 0) {
                    equations[i][i - 1] = win.minus(Q.ONE);
                }
                if (i + 1 < n) {
                    equations[i][i + 1] = Q.ZERO.minus(win);
                } else {
                    equations[i][n] = win;
                }
                if (!leaves(p, lo, lo + 1 + i, hi)) {
                    return STATE;
                }
            }
            return tell(solve(equations, n)[purse - lo - 1]);
        }

        /** Whether lo or hi can be come to from a purse. */
        boolean leaves(int p, int lo, int purse, int hi) {
            boolean[] seen = new boolean[hi - lo + 1];
            seen[purse - lo] = true;
            for (int again = 0; again < 10; again++) {
                for (int at = lo + 1; at < hi; at++) {
                    Q win = win(p, Math.floorMod(at, m));
                    seen[at - lo + 1] |= seen[at - lo] && win.sign() > 0;
                    seen[at - lo - 1] |= seen[at - lo] && win.minus(Q.ONE).sign() < 0;
                }
            }
            return seen[0] || seen[hi - lo];
        }

        int run(int p, int before, int many, int bits) {
            if (!isPlay(p) || !in(before, 0, 3) || !in(many, 1, 12) || !in(bits, 0, (1 << many) - 1)) {
                return BAD;
            }
            if (plays.get(p)[0] != 2) {
                return found(3);
            }
            boolean earlier = before >= 2, last = before % 2 == 1;
            Q chance = Q.ONE;
            for (int k = 0; k < many; k++) {
                boolean won = (bits >> k) % 2 == 1;
                Q win = Q.of(plays.get(p)[1 + (earlier ? 2 : 0) + (last ? 1 : 0)], 12);
                chance = chance.times(won ? win : Q.ONE.minus(win));
                earlier = last;
                last = won;
            }
            return tell(chance);
        }

        int count(int what) {
            int echoes = 0, there = 0;
            for (int[] it : plays) {
                echoes += it[0] == 2 ? 1 : 0;
            }
            for (int[] row : rows) {
                there += row != null ? 1 : 0;
            }
            return new int[] {plays.size(), echoes, there, m}[what];
        }

        long digest() {
            List<Integer> all = new ArrayList<>();
            all.add(m);
            for (int p = 0; p < plays.size(); p++) {
                for (int what = 0; what < 4; what++) {
                    all.add(told(p, what));
                }
                for (int i = 1; i < plays.get(p).length; i++) {
                    all.add(plays.get(p)[i]);
                }
            }
            for (int[] row : rows) {
                all.add(row == null ? -1 : row.length);
                for (int i = 0; row != null && i < row.length; i++) {
                    all.add(row[i]);
                }
            }
            long h = 17;
            for (int v : all) {
                h = 31 * h + v;
            }
            return h;
        }
    }
}
