/**
 * Turns on a canal. The words in capitals, and what each call answers, stand in the project's
 * document; README.md says how to use the class.
 *
 * All rows are made once, with the object, and used again by every call: no call makes anything.
 */
public final class CanalTurns {
    public static final int NONE = -1, BAD = -2, STATE = -3, FULL = -4;
    public static final long NO = Long.MIN_VALUE;

    private static final int NOT_ANY = -5;
    private static final int FAULT_BASE = -10;
    private static final int NOTHING = -11, CAST = -12, PLACE = -13, SIZE = -14;

    private static final int REACHES = 4, FIELDS = 8, TRADES = 12;
    private static final int SEEN_ROWS = 5, PLAN_ROWS = 8, BOOK_ROWS = 8;
    private static final int CLAUSES = 12, NUMBERS = 3, TEXT_BYTES = 100;
    private static final int TAPES = 6, TAPE_ITEMS = 60;

    private static final int MOST_FILL = 9, MOST_LOSS = 25, MOST_SHARE = 9;
    private static final int FEWEST_HOURS = 8, MOST_HOURS = 96;
    private static final int MOST_WEEK = 999, MOST_PASSING = 52, MOST_OVER = 12, MOST_SHARED = 999;
    private static final int HEAD = 0, ON = 1, FLIP = 2, BACK = 3;
    private static final int DAY = 24, NIGHT_FROM = 18, NIGHT_UNTIL = 6;
    private static final int LIKELY_FROM = 20, LIKELY_TO = 29;
    private static final int ROW_ENDED = 100;

    private static final int PLAN_ABSENT = 0, PLAN_WEEKS = 1, PLAN_RULE = 2, PLAN_HOURS = 3;
    private static final int HOLDS_NOTHING = -1, BYTES = 0, SHORTS = 1, INTS = 2, BOOLEANS = 4;

    private final World world = new World();
    private final World kept = new World();
    private boolean isKept = false;
    private final Canal trial = new Canal();
    private final Turns turns = new Turns();
    private final int[] tally = new int[FIELDS];
    private final SetUp setUp = new SetUp();
    private final Tape[] tapes = new Tape[TAPES];

    public CanalTurns() {
        for (int i = 0; i < TAPES; i++) {
            tapes[i] = new Tape();
        }
    }

    // ---- reaches, fields

    public int field(int reach, int share) {
        return world.canal.comeField(reach, share);
    }

    public int renew(int field, int what, int v) {
        return world.canal.renewField(field, what, v);
    }

    public int absent(int field, boolean isAbsent) {
        return world.canal.setAway(field, isAbsent);
    }

    public int reach(int reach, int what, int v) {
        return world.canal.renewReach(reach, what, v);
    }

    public int reachOf(int reach, int what) {
        if (!isWithin(reach, 0, REACHES - 1)) {
            return NONE;
        }
        switch (what) {
            case 0:
                return world.canal.fills[reach];
            case 1:
                return world.canal.losses[reach];
            case 2:
                return world.canal.fieldsOn(reach);
            default:
                return NONE;
        }
    }

    public int hours(int h) {
        return world.canal.setHours(h);
    }

    public int rule(int r) {
        return world.canal.setRule(r);
    }

    public int pass(int n) {
        return world.canal.passWeeks(n);
    }

    public int of(int field, int what) {
        Canal canal = world.canal;
        if (!canal.hasField(field)) {
            return NONE;
        }
        switch (what) {
            case 0:
                return canal.reachOfField[field];
            case 1:
                return canal.shares[field];
            case 2:
                return canal.isAway(field) ? 1 : 0;
            case 3:
                return turnsNow().hoursOf(field);
            case 4:
                return turnsNow().startOf(field);
            case 5:
                return turnsNow().stopOf(field);
            case 6:
                return turnsNow().nightHours(field);
            case 7:
                return turnsNow().hoursOf(field) * canal.keptOfHundred(field);
            case 8:
                return turnsNow().placeOf(field);
            default:
                return NONE;
        }
    }

    public int feed(int sign) {
        return setUp.addSign(sign);
    }

    public int read() {
        int fault = setUp.parse();
        setUp.size = 0;
        if (fault >= 0) {
            return FAULT_BASE - fault;
        }
        int done = 0;
        for (int k = 0; k < setUp.clauses; k++) {
            if (isClauseDone(k)) {
                done++;
            }
        }
        return done;
    }

    // ---- turns

    public int turn(int k) {
        Turns now = turnsNow();
        return isWithin(k, 0, now.count - 1) ? now.order[k] : NONE;
    }

    public int lag(int k) {
        Turns now = turnsNow();
        return isWithin(k, 0, now.count - 1) ? now.lags[k] : NONE;
    }

    public int line(int k) {
        Turns now = turnsNow();
        return isWithin(k, 0, now.fields - 1) ? now.standing[k] : NONE;
    }

    public int who(int t) {
        if (!isWithin(t, 0, MOST_HOURS - 1)) {
            return BAD;
        }
        return turnsNow().fieldAt(t);
    }

    public int shared(int n, int field) {
        if (!world.canal.hasField(field)) {
            return NONE;
        }
        if (!isWithin(n, 0, MOST_SHARED)) {
            return BAD;
        }
        turns.shareOut(world.canal, n, world.canal.allBits());
        return turns.parts[field];
    }

    public int told(int what) {
        Canal canal = world.canal;
        switch (what) {
            case 0:
                return canal.size;
            case 1:
                return canal.weekHours;
            case 2:
                return canal.ruleNow;
            case 3:
                return canal.week;
            case 4:
                return turnsNow().allLags;
            case 5:
                return turnsNow().left;
            case 6:
                return turnsNow().allHours();
            case 7:
                return turnsNow().count;
            case 8:
                return turnsNow().allWater(canal);
            case 9:
                return canal.trades.size;
            case 10:
                return turnsNow().allNightHours();
            case 11:
                return bitsOfLess();
            default:
                return NONE;
        }
    }

    // ---- trades, weeks

    public int trade(int a, int b, int h) {
        Canal canal = world.canal;
        if (!canal.hasField(a) || !canal.hasField(b) || a == b) {
            return NONE;
        }
        if (!isWithin(h, 1, MOST_HOURS)) {
            return BAD;
        }
        if (canal.isAway(a) || canal.isAway(b) || turnsNow().hoursOf(a) < h) {
            return STATE;
        }
        return canal.trades.add(a, b, h);
    }

    public int undoTrade() {
        Rows trades = world.canal.trades;
        if (trades.size <= 0) {
            return STATE;
        }
        trades.size--;
        return trades.size;
    }

    public int tradeOf(int k, int what) {
        Rows trades = world.canal.trades;
        if (!isWithin(k, 0, trades.size - 1)) {
            return NONE;
        }
        switch (what) {
            case 0:
                return trades.first[k];
            case 1:
                return trades.second[k];
            case 2:
                return trades.third[k];
            default:
                return NONE;
        }
    }

    public int chain(int field) {
        if (!world.canal.hasField(field)) {
            return NONE;
        }
        Rows trades = world.canal.trades;
        int reached = 0;
        // In the order in which they came, so that a TRADE counts only behind the one that led to it.
        for (int k = 0; k < trades.size; k++) {
            if (trades.first[k] == field || isBit(reached, trades.first[k])) {
                reached |= 1 << trades.second[k];
            }
        }
        return reached;
    }

    public int over(int field, int n, int what) {
        Canal canal = world.canal;
        if (!canal.hasField(field) || !isWithin(what, 0, 1)) {
            return NONE;
        }
        if (!isWithin(n, 1, MOST_OVER)) {
            return BAD;
        }
        int together = 0;
        for (int i = 0; i < n; i++) {
            turns.workOut(canal, canal.week + i, canal.weekHours, canal.ruleNow, i == 0);
            together += what == 0 ? turns.hoursOf(field) : turns.nightHours(field);
        }
        return together;
    }

    public int uneven(int n) {
        return isWithin(n, 1, MOST_OVER) ? unevenBy(n, world.canal.ruleNow) : BAD;
    }

    public int evenest(int n) {
        if (!isWithin(n, 1, MOST_OVER)) {
            return BAD;
        }
        int best = HEAD;
        int least = unevenBy(n, HEAD);
        for (int r = ON; r <= BACK; r++) {
            int uneven = unevenBy(n, r);
            if (uneven < least) {
                least = uneven;
                best = r;
            }
        }
        return best;
    }

    // ---- seen, odds

    public int see(int field, int h) {
        return tellHours(world.seen, field, h);
    }

    public int fits(int what) {
        if (!isWithin(what, 0, 1)) {
            return NONE;
        }
        int howMany = 0;
        int least = NOT_ANY;
        for (int h = FEWEST_HOURS; h <= MOST_HOURS; h++) {
            if (firstOtherwise(world.seen, turnsWere(h)) == NOT_ANY) {
                howMany++;
                least = least == NOT_ANY ? h : least;
            }
        }
        return what == 0 ? howMany : least;
    }

    public long odds(int field, int part) {
        if (!world.canal.hasField(field)) {
            return NO;
        }
        int byNight = 0;
        for (int h = LIKELY_FROM; h <= LIKELY_TO; h++) {
            if (turnsWere(h).nightHours(field) > 0) {
                byNight++;
            }
        }
        return partOfFraction(byNight, LIKELY_TO - LIKELY_FROM + 1, part);
    }

    public long mean(int part) {
        return partOfFraction(turnsNow().allWater(world.canal), world.canal.size, part);
    }

    // ---- plans, books

    public int plan(int what, int n) {
        Rows plan = world.plan;
        if (what == -1) {
            plan.size = 0;
            return 0;
        }
        if (!isWithin(what, PLAN_ABSENT, PLAN_HOURS)) {
            return NONE;
        }
        if (what == PLAN_ABSENT && !world.canal.hasField(n)) {
            return NONE;
        }
        if (what == PLAN_WEEKS && !isWithin(n, 0, MOST_PASSING)
                || what == PLAN_RULE && !isWithin(n, HEAD, BACK)
                || what == PLAN_HOURS && !isWithin(n, FEWEST_HOURS, MOST_HOURS)) {
            return BAD;
        }
        return plan.add(what, n, 0);
    }

    public int ends(int what) {
        if (!isWithin(what, 0, 2)) {
            return NONE;
        }
        trial.copyFrom(world.canal);
        for (int k = 0; k < world.plan.size; k++) {
            goOn(world.plan.first[k], world.plan.second[k]);
        }
        turns.workOut(trial, trial.week, trial.weekHours, trial.ruleNow, true);
        switch (what) {
            case 0:
                return turns.allWater(trial);
            case 1:
                return turns.allLags;
            default:
                return turns.allNightHours();
        }
    }

    public int book(int field, int h) {
        return tellHours(world.book, field, h);
    }

    public int looked() {
        return firstOtherwise(world.book, turnsNow());
    }

    // ---- judging, the image, tapes

    public int judge(int tape, int i) {
        Tape row = tapeOf(tape);
        if (row == null) {
            return NONE;
        }
        if (row.sort != HOLDS_NOTHING && row.sort != BYTES) {
            return CAST;
        }
        Turns now = turnsNow();
        // Without FIELDS none HAS otherwise, whatever the row holds and wherever i is.
        for (int f = 0; f < now.fields; f++) {
            // If i is no place of the row, this ends with FIELD 0: the sum is never beyond the greatest int.
            int at = i + f;
            if (!isWithin(at, 0, row.size - 1)) {
                return ROW_ENDED + f;
            }
            if (row.items[at] != now.hoursOf(f)) {
                return f;
            }
        }
        return NOT_ANY;
    }

    public int image() {
        kept.copyFrom(world);
        isKept = true;
        return world.canal.size;
    }

    public int undo() {
        if (!isKept) {
            return STATE;
        }
        world.copyFrom(kept);
        return world.canal.size;
    }

    public int count(int what) {
        switch (what) {
            case 0:
                return world.canal.size;
            case 1:
                return world.seen.size;
            case 2:
                return world.plan.size;
            case 3:
                return world.book.size;
            case 4:
                return setUp.size;
            default:
                return BAD;
        }
    }

    public int tape(int tape, int sort, int n) {
        Tape row = tapeOf(tape);
        if (row == null) {
            return NONE;
        }
        if (!isWithin(sort, HOLDS_NOTHING, BOOLEANS)) {
            return BAD;
        }
        if (sort == HOLDS_NOTHING) {
            row.become(HOLDS_NOTHING, 0);
            return 1;
        }
        if (n > TAPE_ITEMS) {
            return BAD;
        }
        if (n < 0) {
            return SIZE;
        }
        row.become(sort, n);
        return 1;
    }

    public int item(int tape, int i, long v) {
        Tape row = tapeOf(tape);
        if (row == null) {
            return NONE;
        }
        if (row.sort == HOLDS_NOTHING) {
            return NOTHING;
        }
        if (!isWithin(i, 0, row.size - 1)) {
            return PLACE;
        }
        row.items[i] = row.asItem(v);
        return 1;
    }

    public long peek(int tape, int i) {
        Tape row = tapeOf(tape);
        if (row == null || !isWithin(i, 0, row.size - 1)) {
            return NO;
        }
        return row.items[i];
    }

    public int shift(int tape, int i, int other, int j, int n) {
        Tape from = tapeOf(tape);
        Tape to = tapeOf(other);
        if (from == null || to == null) {
            return NONE;
        }
        if (from.sort == HOLDS_NOTHING || to.sort == HOLDS_NOTHING) {
            return NOTHING;
        }
        if (from.sort != to.sort) {
            return CAST;
        }
        if (!from.hasStretch(i, n) || !to.hasStretch(j, n)) {
            return PLACE;
        }
        System.arraycopy(from.items, i, to.items, j, n);
        return n;
    }

    // ---- what several calls need

    private static boolean isWithin(int v, int least, int most) {
        return v >= least && v <= most;
    }

    private static boolean canBeField(int f) {
        return isWithin(f, 0, FIELDS - 1);
    }

    private static boolean isBit(int bits, int i) {
        return (bits >> i & 1) == 1;
    }

    /** NO, if nothing stands below the line or there is no such part. */
    private static long partOfFraction(int above, int below, int part) {
        if (below <= 0 || !isWithin(part, 0, 1)) {
            return NO;
        }
        int divisor = commonDivisor(above, below);
        if (divisor <= 0) {
            return NO;
        }
        return part == 0 ? above / divisor : below / divisor;
    }

    private static int commonDivisor(int a, int b) {
        int greater = a;
        int smaller = b;
        // The smaller one becomes less each time: ends long before the bound.
        for (int i = 0; i < 1000000 && smaller != 0; i++) {
            int rest = greater % smaller;
            greater = smaller;
            smaller = rest;
        }
        return greater;
    }

    /** null, if there is no such TAPE. */
    private Tape tapeOf(int tape) {
        return isWithin(tape, 0, TAPES - 1) ? tapes[tape] : null;
    }

    private Turns turnsNow() {
        Canal canal = world.canal;
        turns.workOut(canal, canal.week, canal.weekHours, canal.ruleNow, true);
        return turns;
    }

    /** As they were with other HOURS, without TRADES. */
    private Turns turnsWere(int weekHours) {
        Canal canal = world.canal;
        turns.workOut(canal, canal.week, weekHours, canal.ruleNow, false);
        return turns;
    }

    private boolean isClauseDone(int k) {
        if (!isWithin(k, 0, setUp.clauses - 1)) {
            return false;
        }
        Canal canal = world.canal;
        int a = setUp.numbers[0][k];
        int b = setUp.numbers[1][k];
        int answer;
        switch (setUp.letters[k]) {
            case 'f':
                answer = canal.comeField(a, b);
                break;
            case 'c':
                answer = canal.setReach(a, b, setUp.numbers[2][k]);
                break;
            case 'h':
                answer = canal.setHours(a);
                break;
            case 'u':
                answer = canal.setRule(a);
                break;
            case 'a':
                answer = canal.setAway(a, true);
                break;
            case 'p':
                answer = canal.setAway(a, false);
                break;
            default:
                answer = BAD;
        }
        return answer >= 0;
    }

    private int bitsOfLess() {
        int weekHours = world.canal.weekHours;
        Turns asItIs = turnsWere(weekHours);
        for (int f = 0; f < FIELDS; f++) {
            tally[f] = asItIs.hoursOf(f);
        }
        Turns more = turnsWere(weekHours + 1);
        int less = 0;
        for (int f = 0; f < FIELDS; f++) {
            if (more.hoursOf(f) < tally[f]) {
                less |= 1 << f;
            }
        }
        return less;
    }

    private int unevenBy(int n, int byRule) {
        Canal canal = world.canal;
        for (int f = 0; f < FIELDS; f++) {
            tally[f] = 0;
        }
        for (int i = 0; i < n; i++) {
            turns.workOut(canal, canal.week + i, canal.weekHours, byRule, false);
            for (int f = 0; f < canal.size; f++) {
                tally[f] += turns.nightHours(f);
            }
        }
        // Where all are ABSENT both stay as they begin, and nothing is uneven.
        int most = NOT_ANY;
        int fewest = NOT_ANY;
        for (int f = 0; f < canal.size; f++) {
            if (!canal.isAway(f)) {
                most = most == NOT_ANY ? tally[f] : Math.max(most, tally[f]);
                fewest = fewest == NOT_ANY ? tally[f] : Math.min(fewest, tally[f]);
            }
        }
        return most - fewest;
    }

    /** SEEN and the BOOK are told alike: a FIELD and hours, or a FIELD -1 that empties them. */
    private int tellHours(Rows rows, int f, int h) {
        if (f == -1) {
            rows.size = 0;
            return 0;
        }
        if (!world.canal.hasField(f)) {
            return NONE;
        }
        if (!isWithin(h, 0, MOST_HOURS)) {
            return BAD;
        }
        return rows.add(f, h, 0);
    }

    private static int firstOtherwise(Rows rows, Turns as) {
        for (int k = 0; k < rows.size; k++) {
            if (as.hoursOf(rows.first[k]) != rows.second[k]) {
                return k;
            }
        }
        return NOT_ANY;
    }

    private void goOn(int what, int n) {
        switch (what) {
            case PLAN_ABSENT:
                trial.setAway(n, !trial.isAway(n));
                break;
            case PLAN_WEEKS:
                trial.passWeeks(Math.min(n, MOST_WEEK - trial.week));
                break;
            case PLAN_RULE:
                trial.setRule(n);
                break;
            default:
                trial.setHours(n);
        }
    }

    /** Rows of up to three numbers. */
    private static final class Rows {
        final int[] first;
        final int[] second;
        final int[] third;
        int size = 0;

        Rows(int most) {
            int length = Math.max(most, 0);
            first = new int[length];
            second = new int[length];
            third = new int[length];
        }

        int add(int a, int b, int c) {
            if (size >= first.length) {
                return FULL;
            }
            first[size] = a;
            second[size] = b;
            third[size] = c;
            size++;
            return size;
        }

        void copyFrom(Rows other) {
            size = Math.min(other.size, first.length);
            System.arraycopy(other.first, 0, first, 0, size);
            System.arraycopy(other.second, 0, second, 0, size);
            System.arraycopy(other.third, 0, third, 0, size);
        }
    }

    /** REACHES, FIELDS, HOURS, WEEK, RULE and TRADES, and what changes them. */
    private static final class Canal {
        final int[] fills = new int[REACHES];
        final int[] losses = new int[REACHES];
        final int[] reachOfField = new int[FIELDS];
        final int[] shares = new int[FIELDS];
        final Rows trades = new Rows(TRADES);
        int awayBits = 0;
        int size = 0;
        int weekHours = 24;
        int week = 0;
        int ruleNow = HEAD;

        Canal() {
            for (int r = 0; r < REACHES; r++) {
                fills[r] = 1;
                losses[r] = 5;
            }
        }

        void copyFrom(Canal other) {
            System.arraycopy(other.fills, 0, fills, 0, REACHES);
            System.arraycopy(other.losses, 0, losses, 0, REACHES);
            System.arraycopy(other.reachOfField, 0, reachOfField, 0, FIELDS);
            System.arraycopy(other.shares, 0, shares, 0, FIELDS);
            trades.copyFrom(other.trades);
            awayBits = other.awayBits;
            size = other.size;
            weekHours = other.weekHours;
            week = other.week;
            ruleNow = other.ruleNow;
        }

        boolean hasField(int f) {
            return isWithin(f, 0, size - 1);
        }

        int fieldsOn(int r) {
            int howMany = 0;
            for (int f = 0; f < size; f++) {
                if (reachOfField[f] == r) {
                    howMany++;
                }
            }
            return howMany;
        }

        int allBits() {
            return (1 << size) - 1;
        }

        boolean isAway(int f) {
            return isBit(awayBits, f);
        }

        int bitsOn(int r) {
            int bits = 0;
            for (int f = 0; f < size; f++) {
                bits |= reachOfField[f] == r ? 1 << f : 0;
            }
            return bits;
        }

        /** -1, as if ahead of all REACHES, if there can be no such FIELD. */
        int ownReach(int f) {
            return canBeField(f) ? reachOfField[f] : -1;
        }

        /** Of a hundred, what the LOSSES on the way to a FIELD leave. */
        int keptOfHundred(int f) {
            int own = ownReach(f);
            int left = 100;
            for (int r = 0; r <= own && r < REACHES; r++) {
                left -= losses[r];
            }
            return left;
        }

        int comeField(int r, int s) {
            if (!isWithin(r, 0, REACHES - 1) || !isWithin(s, 1, MOST_SHARE)) {
                return BAD;
            }
            if (size >= FIELDS) {
                return FULL;
            }
            reachOfField[size] = r;
            shares[size] = s;
            awayBits &= ~(1 << size);
            trades.size = 0;
            size++;
            return size - 1;
        }

        int renewField(int f, int what, int v) {
            if (!hasField(f) || !isWithin(what, 0, 1)) {
                return NONE;
            }
            int least = what == 0 ? 0 : 1;
            int most = what == 0 ? REACHES - 1 : MOST_SHARE;
            return renewed(what == 0 ? reachOfField : shares, f, v, least, most);
        }

        int renewReach(int r, int what, int v) {
            if (!isWithin(r, 0, REACHES - 1) || !isWithin(what, 0, 1)) {
                return NONE;
            }
            return renewed(what == 0 ? fills : losses, r, v, 0, what == 0 ? MOST_FILL : MOST_LOSS);
        }

        private int renewed(int[] row, int at, int v, int least, int most) {
            if (!isWithin(v, least, most) || !isWithin(at, 0, row.length - 1)) {
                return BAD;
            }
            int was = row[at];
            row[at] = v;
            trades.size = 0;
            return was;
        }

        /** FILL and LOSS by one CLAUSE: both or none. */
        int setReach(int r, int fill, int loss) {
            if (!isWithin(r, 0, REACHES - 1)) {
                return NONE;
            }
            if (!isWithin(fill, 0, MOST_FILL) || !isWithin(loss, 0, MOST_LOSS)) {
                return BAD;
            }
            fills[r] = fill;
            losses[r] = loss;
            trades.size = 0;
            return 0;
        }

        int setAway(int f, boolean isAbsent) {
            if (!hasField(f)) {
                return NONE;
            }
            int was = isAway(f) ? 1 : 0;
            awayBits = isAbsent ? awayBits | 1 << f : awayBits & ~(1 << f);
            trades.size = 0;
            return was;
        }

        int setHours(int h) {
            if (!isWithin(h, FEWEST_HOURS, MOST_HOURS)) {
                return BAD;
            }
            int was = weekHours;
            weekHours = h;
            trades.size = 0;
            return was;
        }

        int setRule(int r) {
            if (!isWithin(r, HEAD, BACK)) {
                return BAD;
            }
            int was = ruleNow;
            ruleNow = r;
            trades.size = 0;
            return was;
        }

        int passWeeks(int n) {
            if (!isWithin(n, 0, MOST_PASSING)) {
                return BAD;
            }
            if (week + n > MOST_WEEK) {
                return FULL;
            }
            week += n;
            trades.size = 0;
            return week;
        }
    }

    /** What THE IMAGE holds. */
    private static final class World {
        final Canal canal = new Canal();
        final Rows seen = new Rows(SEEN_ROWS);
        final Rows plan = new Rows(PLAN_ROWS);
        final Rows book = new Rows(BOOK_ROWS);

        void copyFrom(World other) {
            canal.copyFrom(other.canal);
            seen.copyFrom(other.seen);
            plan.copyFrom(other.plan);
            book.copyFrom(other.book);
        }
    }

    /** The TURNS of one WEEK, worked out anew for each question. */
    private static final class Turns {
        final int[] standing = new int[FIELDS];
        final int[] order = new int[FIELDS];
        final int[] lags = new int[FIELDS];
        final int[] parts = new int[FIELDS];
        private final int[] have = new int[FIELDS];
        private final int[] rests = new int[FIELDS];
        private final int[] places = new int[FIELDS];
        private final int[] starts = new int[FIELDS];
        private final int[] stops = new int[FIELDS];
        int fields = 0;
        int count = 0;
        int allLags = 0;
        int left = 0;
        private int clockAtStart = 0;

        void workOut(Canal canal, int week, int weekHours, int byRule, boolean isTraded) {
            fields = canal.size;
            clockAtStart = Math.floorMod(week * weekHours, DAY);
            standInLine(canal);
            takeOrder(canal, week, byRule);
            countLags(canal);
            left = Math.max(weekHours - allLags, 0);
            giveHours(canal);
            if (isTraded) {
                moveTraded(canal.trades);
            }
            setTimes();
        }

        private void standInLine(Canal canal) {
            int k = 0;
            for (int r = 0; r < REACHES; r++) {
                for (int f = 0; f < fields && k < FIELDS; f++) {
                    if (canal.reachOfField[f] == r) {
                        standing[k] = f;
                        k++;
                    }
                }
            }
        }

        private void takeOrder(Canal canal, int week, int byRule) {
            count = 0;
            for (int f = 0; f < FIELDS; f++) {
                places[f] = NOT_ANY;
            }
            for (int k = 0; k < fields; k++) {
                int at = comesAt(k, week, byRule);
                if (isWithin(at, 0, FIELDS - 1)) {
                    takeTurn(canal, standing[at]);
                }
            }
        }

        private void takeTurn(Canal canal, int f) {
            if (!canBeField(f) || canal.isAway(f) || count >= FIELDS) {
                return;
            }
            order[count] = f;
            places[f] = count;
            count++;
        }

        /** Where in the LINE the one stands that comes at k, those that are ABSENT counted too. */
        private int comesAt(int k, int week, int byRule) {
            if (fields <= 0) {
                return 0;
            }
            switch (byRule) {
                case ON:
                    return Math.floorMod(k + week, fields);
                case FLIP:
                    return week % 2 == 0 ? k : fields - 1 - k;
                case BACK:
                    return Math.floorMod(k - week, fields);
                default:
                    return k;
            }
        }

        private void countLags(Canal canal) {
            allLags = 0;
            // Ahead of the first TURN no REACH is full: as if the TURN ahead were ahead of REACH 0.
            int ahead = -1;
            for (int k = 0; k < count; k++) {
                int own = canal.ownReach(order[k]);
                int lag = 0;
                for (int r = ahead + 1; r <= own && r < REACHES; r++) {
                    lag += canal.fills[r];
                }
                lags[k] = lag;
                allLags += lag;
                ahead = own;
            }
        }

        private void giveHours(Canal canal) {
            shareOut(canal, left, canal.allBits());
            System.arraycopy(parts, 0, have, 0, FIELDS);
            int present = canal.allBits() & ~canal.awayBits;
            for (int f = 0; f < fields; f++) {
                if (canal.isAway(f)) {
                    int near = canal.bitsOn(canal.reachOfField[f]) & present;
                    shareOut(canal, have[f], near != 0 ? near : present);
                    have[f] = 0;
                    addParts();
                }
            }
        }

        private void addParts() {
            for (int f = 0; f < fields; f++) {
                have[f] += parts[f];
            }
        }

        /** SHARED OUT among the FIELDS of these BITS, into parts; among none it is lost. */
        void shareOut(Canal canal, int n, int among) {
            int allShares = 0;
            for (int f = 0; f < FIELDS; f++) {
                parts[f] = 0;
                rests[f] = -1;
                if (isBit(among, f)) {
                    allShares += canal.shares[f];
                }
            }
            if (allShares <= 0) {
                return;
            }
            int over = n;
            for (int f = 0; f < FIELDS; f++) {
                if (isBit(among, f)) {
                    parts[f] = n * canal.shares[f] / allShares;
                    rests[f] = n * canal.shares[f] % allShares;
                    over -= parts[f];
                }
            }
            giveRests(over);
        }

        /** Never more than there are FIELDS with a rest, so none has two. */
        private void giveRests(int over) {
            for (int i = 0; i < over && i < FIELDS; i++) {
                int best = 0;
                for (int f = 1; f < FIELDS; f++) {
                    if (rests[f] > rests[best]) {
                        best = f;
                    }
                }
                parts[best]++;
                rests[best] = -1;
            }
        }

        private void moveTraded(Rows trades) {
            for (int k = 0; k < trades.size; k++) {
                addHours(trades.first[k], -trades.third[k]);
                addHours(trades.second[k], trades.third[k]);
            }
        }

        private void addHours(int f, int h) {
            if (canBeField(f)) {
                have[f] += h;
            }
        }

        private void setTimes() {
            int t = 0;
            for (int k = 0; k < count; k++) {
                t += lags[k];
                starts[k] = t;
                t += hoursOf(order[k]);
                stops[k] = t;
            }
        }

        int hoursOf(int f) {
            return canBeField(f) ? have[f] : 0;
        }

        int placeOf(int f) {
            return canBeField(f) ? places[f] : NOT_ANY;
        }

        int startOf(int f) {
            int k = placeOf(f);
            return isWithin(k, 0, count - 1) ? starts[k] : NOT_ANY;
        }

        int stopOf(int f) {
            int k = placeOf(f);
            return isWithin(k, 0, count - 1) ? stops[k] : NOT_ANY;
        }

        int fieldAt(int t) {
            for (int k = 0; k < count; k++) {
                if (t >= starts[k] && t < stops[k]) {
                    return order[k];
                }
            }
            return NOT_ANY;
        }

        int nightHours(int f) {
            int byNight = 0;
            int stop = stopOf(f);
            // An ABSENT one both BEGINS and ENDS at -5 here, so it has none.
            for (int t = startOf(f); t < stop; t++) {
                int clock = (clockAtStart + t) % DAY;
                if (clock >= NIGHT_FROM || clock < NIGHT_UNTIL) {
                    byNight++;
                }
            }
            return byNight;
        }

        int allHours() {
            int all = 0;
            for (int f = 0; f < fields; f++) {
                all += have[f];
            }
            return all;
        }

        int allNightHours() {
            int all = 0;
            for (int f = 0; f < fields; f++) {
                all += nightHours(f);
            }
            return all;
        }

        int allWater(Canal canal) {
            int all = 0;
            for (int f = 0; f < fields; f++) {
                all += have[f] * canal.keptOfHundred(f);
            }
            return all;
        }
    }

    /** THE TEXT, and the CLAUSES that were read from it. */
    private static final class SetUp {
        private final byte[] text = new byte[TEXT_BYTES];
        int size = 0;
        final int[] letters = new int[CLAUSES];
        final int[][] numbers = new int[NUMBERS][CLAUSES];
        int clauses = 0;
        private int at = 0;

        int addSign(int sign) {
            if (!isWithin(sign, 0, 127)) {
                return BAD;
            }
            if (size >= TEXT_BYTES) {
                return FULL;
            }
            text[size] = (byte) sign;
            size++;
            return size;
        }

        /** The FAULT, or -1. */
        int parse() {
            at = 0;
            clauses = 0;
            for (int k = 0; k < CLAUSES; k++) {
                if (!isClauseRead(k)) {
                    return at;
                }
                clauses = k + 1;
                if (at >= size) {
                    return -1;
                }
                if (text[at] != ';' || clauses == CLAUSES) {
                    return at;
                }
                at++;
            }
            return at;
        }

        /** If not, the FAULT is where it stays. */
        private boolean isClauseRead(int k) {
            if (at >= size || !isWithin(k, 0, CLAUSES - 1)) {
                return false;
            }
            int letter = text[at];
            int howMany = numbersOf(letter);
            if (howMany == 0) {
                return false;
            }
            letters[k] = letter;
            at++;
            for (int i = 0; i < howMany && i < NUMBERS; i++) {
                int number = nextDigit();
                if (number < 0) {
                    return false;
                }
                boolean isLong = isLastLong(letter) && i == howMany - 1;
                numbers[i][k] = isLong ? withNextDigit(number) : number;
            }
            return true;
        }

        private static int numbersOf(int letter) {
            switch (letter) {
                case 'f':
                    return 2;
                case 'c':
                    return 3;
                case 'h':
                case 'u':
                case 'a':
                case 'p':
                    return 1;
                default:
                    return 0;
            }
        }

        /** LOSS and HOURS, which may have two digits, stand last. */
        private static boolean isLastLong(int letter) {
            return letter == 'c' || letter == 'h';
        }

        /** -1, and no step on, if none stands there. */
        private int nextDigit() {
            int sign = at < size ? text[at] : 0;
            if (sign < '0' || sign > '9') {
                return -1;
            }
            at++;
            return sign - '0';
        }

        private int withNextDigit(int number) {
            int digit = nextDigit();
            return digit < 0 ? number : number * 10 + digit;
        }
    }

    /** The items of every sort are kept as longs, so that a new row needs no new array. */
    private static final class Tape {
        final long[] items = new long[TAPE_ITEMS];
        int sort = HOLDS_NOTHING;
        int size = 0;

        void become(int newSort, int n) {
            sort = newSort;
            size = Math.max(0, Math.min(n, TAPE_ITEMS));
            for (int i = 0; i < TAPE_ITEMS; i++) {
                items[i] = 0;
            }
        }

        long asItem(long v) {
            switch (sort) {
                case BYTES:
                    return (byte) v;
                case SHORTS:
                    return (short) v;
                case INTS:
                    return (int) v;
                case BOOLEANS:
                    return v != 0 ? 1 : 0;
                default:
                    return v;
            }
        }

        /** Written with a difference: a sum of from and n may be beyond the greatest int. */
        boolean hasStretch(int from, int n) {
            return from >= 0 && n >= 0 && n <= size && from <= size - n;
        }
    }
}
