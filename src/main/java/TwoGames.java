import java.util.Arrays;

/**
 * Two losing games: plays whose odds hang on what the purse leaves over, or on how the last two
 * ended; each loses by itself, and yet played by turns they may win.
 *
 * <p>All chances are held as whole numbers by a common scale (a power of 12), so that every fraction
 * is exact. The scratch rows are made once with the object; only a new play makes anything later.
 */
public final class TwoGames {
    public static final int BAD = -1, FULL = -2, FINDING = -3, STATE = -4, NONE = -9;

    private static final int NOTHING = 1, BEYOND = 2, UNLIKE = 3, NOUGHT = 4, SIZE = 5;
    private static final int PLAIN = 0, RESTED = 1, ECHO = 2, FLAT = 3;
    private static final int EVEN = 0, WINS = 1, LOSES = 2;

    /** Odds of 12 by 12: a win that is sure. */
    private static final int SURE = 12;
    private static final int HALF = 6;

    private static final int MOST_PLAYS = 8;
    private static final int MOST_ODDS = 4;
    private static final int MOST_RESTS = 3;
    private static final int ROW_COUNT = 4;
    private static final int MOST_PLACES = 4;
    private static final int MISSING = -1;
    private static final int LAID_ABOVE = 1000;

    private static final int MOST_TURNS = 9;
    private static final int FIRST_PURSE_LIMIT = 20;
    private static final int LATER_PURSE_LIMIT = 40;
    private static final int WIDEST_ENDS = 9;
    private static final int LAST_TWO = 3;
    private static final int LONGEST_RUN = 12;

    private int rests = MOST_RESTS;
    private int playCount = 0;
    private final Play[] plays = new Play[MOST_PLAYS];
    private final Row[] rows = new Row[ROW_COUNT];

    private int latestFinding = 0;
    private final int[] findingCounts = new int[SIZE + 1];
    private final Fraction fraction = new Fraction();
    private final int[] chosen = new int[MOST_RESTS];

    /** Place k holds what the first k turns of a row lead to; place 0 the beginning. */
    private final Round[] rounds = new Round[MOST_PLACES + 1];
    private final int[] turnOdds = new int[MOST_RESTS];
    private final int[] tried = new int[MOST_PLACES];
    private final Row trial = new Row();
    private final Best best = new Best();
    private final Purses purses = new Purses();

    public TwoGames() {
        for (int r = 0; r < ROW_COUNT; r++) {
            rows[r] = new Row();
        }
        for (int k = 0; k <= MOST_PLACES; k++) {
            rounds[k] = new Round();
        }
        Arrays.fill(chosen, NONE);
    }

    // ---- 1 plays, rows

    public int rest(int m) {
        if (m < 1 || m > MOST_RESTS) {
            return BAD;
        }
        int was = rests;
        rests = m;
        return was;
    }

    public int play() {
        return added(PLAIN, 0, SURE, SURE, SURE, SURE);
    }

    public int rested(int a, int b, int c) {
        if (!isOdds(a) || !isOdds(b) || !isOdds(c)) {
            return BAD;
        }
        return added(RESTED, MOST_RESTS, a, b, c, 0);
    }

    public int echo(int a, int b, int c, int d) {
        if (!isOdds(a) || !isOdds(b) || !isOdds(c) || !isOdds(d)) {
            return BAD;
        }
        return added(ECHO, MOST_ODDS, a, b, c, d);
    }

    public int flat(int a) {
        if (!isOdds(a)) {
            return BAD;
        }
        return added(FLAT, 1, a, a, a, a);
    }

    public int told(int play, int what) {
        Play it = playAt(play);
        if (it == null) {
            return BAD;
        }
        switch (what) {
            case 0: return it.kind;
            case 1: return it.size;
            case 2: return it.least();
            case 3: return it.greatest();
            default: return BAD;
        }
    }

    public int mark(int play, int kind) {
        Play it = playAt(play);
        if (it == null || kind < RESTED || kind > FLAT) {
            return BAD;
        }
        if (!it.isOf(kind)) {
            return refuse(UNLIKE);
        }
        switch (kind) {
            case RESTED: return it.wins[0];
            case ECHO: return it.wins[LAST_TWO];
            default: return it.wins[0] - HALF;
        }
    }

    public int odds(int play, int i) {
        Play it = playAt(play);
        if (it == null) {
            return BAD;
        }
        if (i < 0 || i >= it.readable()) {
            return refuse(BEYOND);
        }
        return it.wins[i];
    }

    public int change(int play, int i, int v) {
        Play it = playAt(play);
        if (it == null || !isOdds(v)) {
            return BAD;
        }
        if (it.kind == PLAIN) {
            return refuse(UNLIKE);
        }
        if (i < 0 || i >= it.size) {
            return refuse(BEYOND);
        }
        int was = it.wins[i];
        it.become(i, v);
        return was;
    }

    public int mean(int play) {
        Play it = playAt(play);
        if (it == null) {
            return BAD;
        }
        if (it.size == 0) {
            return refuse(NOUGHT);
        }
        return it.sum() / it.size;
    }

    public int row(int r, int n) {
        Row row = rowAt(r);
        if (row == null || n > MOST_PLACES) {
            return BAD;
        }
        if (n < 0) {
            return refuse(SIZE);
        }
        row.become(n);
        return n;
    }

    public int lay(int r, int i, int v) {
        Row row = rowAt(r);
        if (row == null) {
            return BAD;
        }
        if (row.isMissing()) {
            return refuse(NOTHING);
        }
        if (i < 0 || i >= row.size) {
            return refuse(BEYOND);
        }
        int was = row.places[i];
        row.places[i] = v;
        return was + LAID_ABOVE;
    }

    public int tear(int r) {
        Row row = rowAt(r);
        if (row == null) {
            return BAD;
        }
        if (row.isMissing()) {
            return refuse(NOTHING);
        }
        row.size = MISSING;
        return 1;
    }

    public int copy(int r, int i, int to, int j, int n) {
        Row source = rowAt(r);
        Row target = rowAt(to);
        if (source == null || target == null) {
            return BAD;
        }
        if (n < 0) {
            return refuse(SIZE);
        }
        if (source.isMissing() || target.isMissing()) {
            return refuse(NOTHING);
        }
        if (!source.holds(i, n) || !target.holds(j, n)) {
            return refuse(BEYOND);
        }
        System.arraycopy(source.places, i, target.places, j, n);
        return 1;
    }

    // ---- 2 what is gained

    public int leads(int r, int from, int to) {
        Row row = rowAt(r);
        if (row == null || !isRest(from) || !isRest(to)) {
            return BAD;
        }
        int refusal = refusalOf(row);
        if (refusal != 0) {
            return refusal;
        }
        Round round = roundOf(row);
        fraction.tell(round.chance(from, to), round.scale);
        return 1;
    }

    public int share(int r, int rest) {
        Row row = rowAt(r);
        if (row == null || !isRest(rest)) {
            return BAD;
        }
        int refusal = refusalOf(row);
        if (refusal != 0) {
            return refusal;
        }
        Round round = roundOf(row);
        if (!round.settles()) {
            return STATE;
        }
        fraction.tell(round.weights[rest], round.weightSum);
        return 1;
    }

    public int gain(int r) {
        Row row = rowAt(r);
        if (row == null) {
            return BAD;
        }
        int refusal = refusalOf(row);
        if (refusal != 0) {
            return refusal;
        }
        return tellGain(roundOf(row));
    }

    public int lot(int one, int other, int u) {
        Play first = playAt(one);
        Play second = playAt(other);
        if (first == null || second == null || !isOdds(u)) {
            return BAD;
        }
        if (first.kind == ECHO || second.kind == ECHO) {
            return refuse(UNLIKE);
        }
        return tellGain(roundOfLot(first, second, u));
    }

    public int middle(int one, int other) {
        Play first = playAt(one);
        Play second = playAt(other);
        if (first == null || second == null) {
            return BAD;
        }
        if (first.kind == ECHO || second.kind == ECHO) {
            return refuse(UNLIKE);
        }
        for (int u = 0; u <= SURE; u++) {
            Round round = roundOfLot(first, second, u);
            if (round.settles() && round.outcome() == WINS) {
                return u;
            }
        }
        return NONE;
    }

    public int bestRow(int n, int to) {
        Row target = rowAt(to);
        if (target == null || n < 1 || n > MOST_PLACES) {
            return BAD;
        }
        best.found = false;
        rounds[0].begin(rests);
        tryRows(0, n);
        if (!best.found) {
            return STATE;
        }
        target.become(n);
        System.arraycopy(best.numbers, 0, target.places, 0, n);
        fraction.tell(best.gainSum, best.gainScale);
        return 1;
    }

    public int bestChoice() {
        best.found = false;
        rounds[0].begin(rests);
        tryChoices(0);
        if (!best.found) {
            return STATE;
        }
        for (int rest = 0; rest < MOST_RESTS; rest++) {
            chosen[rest] = rest < rests ? best.numbers[rest] : NONE;
        }
        fraction.tell(best.gainSum, best.gainScale);
        return 1;
    }

    public int choice(int rest) {
        if (rest < 0 || rest >= MOST_RESTS) {
            return NONE;
        }
        return chosen[rest];
    }

    public int paradoxes() {
        int pairs = 0;
        for (int one = 0; one < playCount; one++) {
            if (!losesAlone(one)) {
                continue;
            }
            for (int other = one + 1; other < playCount; other++) {
                if (losesAlone(other) && winByTurns(one, other)) {
                    pairs++;
                }
            }
        }
        return pairs;
    }

    // ---- 3 after turns, ends

    public int after(int r, int purse, int n, int then) {
        Row row = rowAt(r);
        if (row == null || !areTurns(n) || !isFirstPurse(purse) || !isLaterPurse(then)) {
            return BAD;
        }
        int refusal = refusalOf(row);
        if (refusal != 0) {
            return refusal;
        }
        spread(row, purse, n);
        fraction.tell(purses.chanceOf(then), purses.scale);
        return 1;
    }

    public int meanAfter(int r, int purse, int n) {
        Row row = rowAt(r);
        if (row == null || !areTurns(n) || !isFirstPurse(purse)) {
            return BAD;
        }
        int refusal = refusalOf(row);
        if (refusal != 0) {
            return refusal;
        }
        spread(row, purse, n);
        fraction.tell(purses.weighed(), purses.scale);
        return 1;
    }

    public int ends(int play, int lo, int purse, int hi) {
        Play it = playAt(play);
        if (it == null || !areEnds(lo, purse, hi)) {
            return BAD;
        }
        if (!it.isOf(RESTED)) {
            return refuse(UNLIKE);
        }
        long reached = 0;
        long all = 0;
        for (int cut = lo; cut < hi; cut++) {
            long weight = weightOfCut(it, lo, cut, hi);
            all += weight;
            if (cut < purse) {
                reached += weight;
            }
        }
        if (all == 0) {
            return STATE;
        }
        fraction.tell(reached, all);
        return 1;
    }

    public int run(int play, int before, int many, int ends) {
        Play it = playAt(play);
        if (it == null || before < 0 || before > LAST_TWO || many < 1 || many > LONGEST_RUN) {
            return BAD;
        }
        if (ends < 0 || ends >= 1 << many) {
            return BAD;
        }
        if (it.kind != ECHO) {
            return refuse(UNLIKE);
        }
        long chance = 1;
        long scale = 1;
        int lastTwo = before;
        for (int k = 0; k < many; k++) {
            int end = ends >> k & 1;
            int win = it.wins[lastTwo];
            chance *= end == 1 ? win : SURE - win;
            scale *= SURE;
            lastTwo = lastTwo << 1 & LAST_TWO | end;
        }
        fraction.tell(chance, scale);
        return 1;
    }

    // ---- 4 what is told

    public long upper() {
        return fraction.above;
    }

    public long lower() {
        return fraction.below;
    }

    public int count(int what) {
        switch (what) {
            case 0: return playCount;
            case 1: return echoCount();
            case 2: return rowsThere();
            case 3: return rests;
            default: return BAD;
        }
    }

    public int finding() {
        return latestFinding;
    }

    public int findings(int f) {
        if (f < NOTHING || f > SIZE) {
            return BAD;
        }
        return findingCounts[f];
    }

    public long digest() {
        long h = 31L * 17 + rests;
        for (int p = 0; p < playCount; p++) {
            Play play = playAt(p);
            if (play != null) {
                h = play.digestedInto(h);
            }
        }
        for (int r = 0; r < ROW_COUNT; r++) {
            h = rows[r].digestedInto(h);
        }
        return h;
    }

    // ---- what the calls share

    private int refuse(int finding) {
        latestFinding = finding;
        findingCounts[finding]++;
        return FINDING;
    }

    /** The number of a new play, or FULL. */
    private int added(int kind, int size, int a, int b, int c, int d) {
        if (playCount >= MOST_PLAYS) {
            return FULL;
        }
        plays[playCount] = new Play(kind, size, a, b, c, d);
        playCount++;
        return playCount - 1;
    }

    /** The play of a number, or null. */
    private Play playAt(int number) {
        return number < 0 || number >= playCount ? null : plays[number];
    }

    /** The row of a number, there or missing, or null. */
    private Row rowAt(int number) {
        return number < 0 || number >= ROW_COUNT ? null : rows[number];
    }

    private static boolean isOdds(int a) {
        return a >= 0 && a <= SURE;
    }

    private boolean isRest(int rest) {
        return rest >= 0 && rest < rests;
    }

    private static boolean areTurns(int n) {
        return n >= 0 && n <= MOST_TURNS;
    }

    private static boolean isFirstPurse(int purse) {
        return purse >= -FIRST_PURSE_LIMIT && purse <= FIRST_PURSE_LIMIT;
    }

    private static boolean isLaterPurse(int purse) {
        return purse >= -LATER_PURSE_LIMIT && purse <= LATER_PURSE_LIMIT;
    }

    private static boolean areEnds(int lo, int purse, int hi) {
        return isFirstPurse(lo) && isFirstPurse(hi) && lo < purse && purse < hi && hi - lo <= WIDEST_ENDS;
    }

    private int echoCount() {
        int echoes = 0;
        for (int p = 0; p < playCount; p++) {
            if (!hangsOnPurse(p)) {
                echoes++;
            }
        }
        return echoes;
    }

    private int rowsThere() {
        int there = 0;
        for (int r = 0; r < ROW_COUNT; r++) {
            if (!rows[r].isMissing()) {
                there++;
            }
        }
        return there;
    }

    /** What a call that wants a FIT row answers to one that is not; 0 if it is. */
    private int refusalOf(Row row) {
        if (row.isMissing()) {
            return refuse(NOTHING);
        }
        if (!isFit(row)) {
            return refuse(UNLIKE);
        }
        return 0;
    }

    private boolean isFit(Row row) {
        for (int i = 0; i < row.size; i++) {
            if (!hangsOnPurse(row.places[i])) {
                return false;
            }
        }
        return row.size > 0;
    }

    /** Whether it is the number of a play that a round can hold: any but an echo. */
    private boolean hangsOnPurse(int number) {
        Play play = playAt(number);
        return play != null && play.kind != ECHO;
    }

    // ---- rounds

    private Round roundOf(Row row) {
        rounds[0].begin(rests);
        int turns = 0;
        for (int i = 0; i < row.size; i++) {
            Play play = playAt(row.places[i]);
            if (play != null) {
                rounds[turns + 1].follow(rounds[turns], play.wins, SURE);
                turns++;
            }
        }
        return rounds[turns];
    }

    private Round roundOfLot(Play first, Play second, int u) {
        for (int rest = 0; rest < rests; rest++) {
            turnOdds[rest] = u * first.wins[rest] + (SURE - u) * second.wins[rest];
        }
        rounds[0].begin(rests);
        rounds[1].follow(rounds[0], turnOdds, SURE * SURE);
        return rounds[1];
    }

    private int tellGain(Round round) {
        if (!round.settles()) {
            return STATE;
        }
        fraction.tell(round.gainSum, round.gainScale());
        return round.outcome();
    }

    private boolean losesAlone(int number) {
        if (!hangsOnPurse(number)) {
            return false;
        }
        trial.become(1);
        trial.places[0] = number;
        Round round = roundOf(trial);
        return round.settles() && round.outcome() == LOSES;
    }

    private boolean winByTurns(int one, int other) {
        trial.become(2);
        trial.places[0] = one;
        trial.places[1] = other;
        Round round = roundOf(trial);
        return round.settles() && round.outcome() == WINS;
    }

    /** Tries all rows of n plays that begin with the first ones tried; the rows come in their order. */
    private void tryRows(int depth, int n) {
        if (depth >= n || depth >= MOST_PLACES) {
            best.offer(rounds[depth], tried);
            return;
        }
        for (int p = 0; p < playCount; p++) {
            tryRowsWith(p, depth, n);
        }
    }

    private void tryRowsWith(int number, int depth, int n) {
        Play play = playAt(number);
        if (play != null && play.kind != ECHO) {
            tried[depth] = number;
            rounds[depth + 1].follow(rounds[depth], play.wins, SURE);
            tryRows(depth + 1, n);
        }
    }

    /** Tries all choices that begin with those for the rests below this one, in their order. */
    private void tryChoices(int rest) {
        if (rest >= rests || rest >= MOST_RESTS) {
            rounds[1].follow(rounds[0], turnOdds, SURE);
            best.offer(rounds[1], tried);
            return;
        }
        for (int p = 0; p < playCount; p++) {
            tryChoicesWith(p, rest);
        }
    }

    private void tryChoicesWith(int number, int rest) {
        Play play = playAt(number);
        if (play != null && play.kind != ECHO) {
            tried[rest] = number;
            turnOdds[rest] = play.wins[rest];
            tryChoices(rest + 1);
        }
    }

    // ---- purses

    /** What a purse, perhaps below 0, leaves over. */
    private int restOf(int purse) {
        return rests < 1 ? 0 : Math.floorMod(purse, rests);
    }

    private void spread(Row row, int purse, int n) {
        purses.begin(purse);
        for (int turn = 0; turn < n && row.size > 0; turn++) {
            Play play = playAt(row.places[turn % row.size]);
            if (play != null) {
                purses.follow(play.wins, rests);
            }
        }
    }

    /**
     * The chance of an end is the weight of the cuts below the purse by that of all cuts (a cut: the
     * purses up to it take their step down, those above it their step up). This needs no division,
     * and all cuts weigh nothing just if there is a purse from which it goes on for ever.
     */
    private long weightOfCut(Play play, int lo, int cut, int hi) {
        long weight = 1;
        for (int purse = lo + 1; purse < hi; purse++) {
            int win = play.wins[restOf(purse)];
            weight *= purse <= cut ? SURE - win : win;
        }
        return weight;
    }

    /** One play: its kind, and its odds written out for every rest, or every two ends before. */
    private static final class Play {
        final int kind;
        /** How many odds it tells; fewer than are written out, if it is FLAT or of KIND 0. */
        final int size;
        final int[] wins = new int[MOST_ODDS];

        Play(int kind, int size, int a, int b, int c, int d) {
            this.kind = kind;
            this.size = size;
            wins[0] = a;
            wins[1] = b;
            wins[2] = c;
            wins[3] = d;
        }

        /** A FLAT play is a RESTED one, too. */
        boolean isOf(int wanted) {
            return kind == wanted || kind == FLAT && wanted == RESTED;
        }

        /** How many odds can be asked for: a FLAT play has its one at each rest. */
        int readable() {
            switch (kind) {
                case PLAIN: return 1;
                case ECHO: return MOST_ODDS;
                default: return MOST_RESTS;
            }
        }

        void become(int i, int v) {
            if (kind == FLAT) {
                Arrays.fill(wins, v);
            } else if (i >= 0 && i < MOST_ODDS) {
                wins[i] = v;
            }
        }

        int least() {
            if (size == 0) {
                return NONE;
            }
            int least = wins[0];
            for (int i = 1; i < size; i++) {
                least = Math.min(least, wins[i]);
            }
            return least;
        }

        int greatest() {
            if (size == 0) {
                return NONE;
            }
            int greatest = wins[0];
            for (int i = 1; i < size; i++) {
                greatest = Math.max(greatest, wins[i]);
            }
            return greatest;
        }

        int sum() {
            int sum = 0;
            for (int i = 0; i < size; i++) {
                sum += wins[i];
            }
            return sum;
        }

        long digestedInto(long before) {
            long h = 31 * before + kind;
            h = 31 * h + size;
            h = 31 * h + least();
            h = 31 * h + greatest();
            for (int i = 0; i < size; i++) {
                h = 31 * h + wins[i];
            }
            return h;
        }
    }

    /** A row of 0 to 4 ints, or a missing one. */
    private static final class Row {
        int size = MISSING;
        final int[] places = new int[MOST_PLACES];

        boolean isMissing() {
            return size == MISSING;
        }

        void become(int n) {
            size = n;
            Arrays.fill(places, 0);
        }

        /** Written so that no sum can wrap. */
        boolean holds(int from, int n) {
            return from >= 0 && from <= size - n;
        }

        long digestedInto(long before) {
            long h = 31 * before + size;
            for (int i = 0; i < size; i++) {
                h = 31 * h + places[i];
            }
            return h;
        }
    }

    /** The fraction that was told last. */
    private static final class Fraction {
        /** No two longs need as many steps as this to their common divisor. */
        private static final int MOST_STEPS = 100;

        long above = 0;
        long below = 1;

        void tell(long numerator, long denominator) {
            long common = commonDivisor(Math.abs(numerator), denominator);
            if (common > 0) {
                above = numerator / common;
                below = denominator / common;
            }
        }

        private static long commonDivisor(long a, long b) {
            long greater = a;
            long lesser = b;
            for (int step = 0; step < MOST_STEPS && lesser != 0; step++) {
                long left = greater % lesser;
                greater = lesser;
                lesser = left;
            }
            return greater;
        }
    }

    /** What some turns lead to from each rest: chances and gains, in whole numbers by the scale. */
    private static final class Round {
        int rests = 1;
        int turns = 0;
        long scale = 1;
        final long[] chances = new long[MOST_RESTS * MOST_RESTS];
        final long[] gains = new long[MOST_RESTS];
        /** The shares are the weights by their sum, once settles() has found them. */
        final long[] weights = new long[MOST_RESTS];
        long weightSum = 0;
        long gainSum = 0;

        void begin(int m) {
            rests = m;
            turns = 0;
            scale = 1;
            Arrays.fill(chances, 0);
            Arrays.fill(gains, 0);
            for (int rest = 0; rest < m; rest++) {
                chances[rest * MOST_RESTS + rest] = 1;
            }
        }

        /** Becomes the turns ahead and one more, with odds to win (at each rest) by a number. */
        void follow(Round ahead, int[] odds, int by) {
            rests = ahead.rests;
            turns = ahead.turns + 1;
            scale = ahead.scale * by;
            Arrays.fill(chances, 0);
            for (int from = 0; from < rests; from++) {
                gains[from] = ahead.gains[from] * by;
                for (int at = 0; at < rests; at++) {
                    long chance = ahead.chance(from, at);
                    step(from, at, chance * odds[at], chance * (by - odds[at]));
                }
            }
        }

        private void step(int from, int at, long won, long lost) {
            int up = at + 1 < rests ? at + 1 : 0;
            int down = at > 0 ? at - 1 : rests - 1;
            chances[from * MOST_RESTS + up] += won;
            chances[from * MOST_RESTS + down] += lost;
            gains[from] += won - lost;
        }

        long chance(int from, int to) {
            return chances[from * MOST_RESTS + to];
        }

        /** Finds the weights; they are all 0 just if more than one row of shares stays as it is. */
        boolean settles() {
            weightSum = 0;
            gainSum = 0;
            for (int rest = 0; rest < rests; rest++) {
                weights[rest] = weightOf(rest);
                weightSum += weights[rest];
                gainSum += weights[rest] * gains[rest];
            }
            return weightSum > 0;
        }

        /**
         * The sum, over all ways to lead every other rest to this one without a circle, of the
         * product of the steps' chances: the share of a rest goes as this, and nothing is divided.
         */
        private long weightOf(int root) {
            if (rests < 2) {
                return 1;
            }
            int one = (root + 1) % rests;
            if (rests == 2) {
                return chance(one, root);
            }
            int other = (root + 2) % rests;
            return chance(one, root) * chance(other, root)
                + chance(one, other) * chance(other, root)
                + chance(other, one) * chance(one, root);
        }

        /** What gainSum is by, for the gain in one turn: at most 12 to the 13th. */
        long gainScale() {
            return weightSum * scale * turns;
        }

        int outcome() {
            if (gainSum > 0) {
                return WINS;
            }
            return gainSum < 0 ? LOSES : EVEN;
        }
    }

    /** The best round so far of those with the same scale and number of turns. */
    private static final class Best {
        boolean found = false;
        long gainSum = 0;
        long weightSum = 1;
        long gainScale = 1;
        final int[] numbers = new int[MOST_PLACES];

        void offer(Round round, int[] tried) {
            if (round.settles() && (!found || isBelow(round.gainSum, round.weightSum))) {
                found = true;
                gainSum = round.gainSum;
                weightSum = round.weightSum;
                gainScale = round.gainScale();
                System.arraycopy(tried, 0, numbers, 0, MOST_PLACES);
            }
        }

        /** Whole parts first: the products of what is left over stay below 2 to the 63rd. */
        private boolean isBelow(long sum, long by) {
            if (by <= 0 || weightSum <= 0) {
                return false;
            }
            long whole = Math.floorDiv(sum, by);
            long bestWhole = Math.floorDiv(gainSum, weightSum);
            if (whole != bestWhole) {
                return bestWhole < whole;
            }
            long left = sum - whole * by;
            long bestLeft = gainSum - bestWhole * weightSum;
            return bestLeft * by < left * weightSum;
        }
    }

    /** How likely each purse is after some turns, in whole numbers by the scale. */
    private static final class Purses {
        int first = 0;
        int turns = 0;
        long scale = 1;
        /** Place k is for the purse first + k - MOST_TURNS. */
        final long[] chances = new long[2 * MOST_TURNS + 1];

        void begin(int purse) {
            first = purse;
            turns = 0;
            scale = 1;
            Arrays.fill(chances, 0);
            chances[MOST_TURNS] = 1;
        }

        /** One row of chances is enough: a turn leads from every second purse to those between. */
        void follow(int[] odds, int rests) {
            if (turns >= MOST_TURNS || rests < 1) {
                return;
            }
            for (int k = MOST_TURNS - turns; k <= MOST_TURNS + turns; k += 2) {
                int win = odds[Math.floorMod(first + k - MOST_TURNS, rests)];
                chances[k + 1] += chances[k] * win;
                chances[k - 1] += chances[k] * (SURE - win);
                chances[k] = 0;
            }
            turns++;
            scale *= SURE;
        }

        long chanceOf(int purse) {
            int k = purse - first + MOST_TURNS;
            return k < 0 || k >= chances.length ? 0 : chances[k];
        }

        /** The sum of all purses, each by its chance. */
        long weighed() {
            long sum = 0;
            for (int k = 0; k < chances.length; k++) {
                sum += chances[k] * (first + k - MOST_TURNS);
            }
            return sum;
        }
    }
}
