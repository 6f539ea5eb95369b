/**
 * One sledge for two: a hill, its riders and sledges, and an afternoon till it is dark. The words in capitals in
 * the comments are those of the document (../shared/DOC.md).
 *
 * Whatever only tells what would come of it is played on another hill than the one in truth; whatever comes to pass
 * as a whole or not at all is played there too, and taken over when it stands. These hills are made once and used
 * again, so that no call makes an object.
 */
public final class OneSledgeForTwo {
    public static final int NONE = -1;

    private static final int NOBODY = -1;
    private static final int OTHER = -2;
    private static final int NOTHING = -3;
    private static final int BELOW = -4;
    private static final int BEYOND = -5;
    private static final int WRONG = -6;
    private static final int ROOM = -7;
    private static final int NOT_REFUSED = 0;
    private static final int REFUSALS = 7;
    /** judge() tells its refusals as so much less, for its -1 is an answer. */
    private static final int JUDGE_LESS = 10;

    private static final int RIDER = 0;
    private static final int HEAVY = 1;
    private static final int STRONG = 2;
    private static final int STEERER = 3;
    private static final int SMALL = 4;
    private static final int TOUGH = 5;
    private static final int BABY = 6;
    private static final int KINDS = 7;
    /** The KIND above each KIND; none stands more than two under RIDER. */
    private static final int[] ABOVE = {NONE, RIDER, RIDER, HEAVY, RIDER, STRONG, SMALL};

    private static final int AT_FOOT = 0;
    private static final int AT_TOP = 1;

    private static final int DOWN = 0;
    private static final int DOWN_BY_TWO = 1;
    private static final int PULL = 2;
    private static final int PULL_BY_TWO = 3;
    private static final int WALK_UP = 4;
    private static final int LIFT = 5;
    private static final int WALK_DOWN = 6;
    private static final int REST = 7;

    private static final int TOGETHER = 0;
    private static final int TURNS = 1;
    private static final int RESTED = 2;
    private static final int STRONGEST = 3;
    private static final int RULES = 4;
    private static final int MOST_BY_RULE = 300;

    private static final int MOST_RIDERS = 4;
    private static final int MOST_A = 9;
    private static final int MOST_TIRED = 99;
    private static final int MOST_SLEDGES = 3;
    private static final int MOST_MINUTES = 999;
    private static final int MOST_PENNIES = 99;
    private static final int MOST_STEEP = 9;
    private static final int MOST_LONG = 9;
    private static final int MOST_AHEAD = 3;
    private static final int MOST_TOLD = 60;
    private static final int MOST_STONES = 500;
    private static final int MOST_MINUTES_A_STONE = 20;
    private static final int MOST_LEAST_PENNIES = 9;

    private static final int SHELVES = 8;
    private static final int SORTS_OF_ROWS = 4;
    private static final int MOST_ELEMENTS = 160;
    /** What a SHELF with a ROW holds is told as this and the ROW's SORT. */
    private static final int A_ROW = 100;

    private static final int RIDES = 0;
    private static final int PULLS = 1;
    private static final int WAITS = 2;
    /** The body that each KIND runs: its own, or that of the next KIND above that has one. */
    private static final int[] RIDES_BODIES = {10, 20, 10, 20, 51, 10, 70};
    private static final int[] PULLS_BODIES = {11, 11, 30, 40, 11, 30, 71};
    private static final int[] WAITS_BODIES = {12, 12, 12, 12, 50, 60, 50};
    /** No ACT stands so many bodies deep: BABY's waits, the deepest, comes to seven. */
    private static final int DEEPEST_ACT = 16;
    private static final int BODIES_KEPT = 20;

    private final Hill truth = new Hill();
    private final Hill trial = new Hill();
    private final Hill kept = new Hill();
    private boolean hasImage;
    private final Sharing sharing = new Sharing();
    private final Reader reader = new Reader();
    private final Lookahead lookahead = new Lookahead();
    private final Trace bodies = new Trace();
    private final Shelf[] shelves = new Shelf[SHELVES];
    private final int[] refused = new int[REFUSALS];
    private int latestFault = NONE;

    public OneSledgeForTwo() {
        for (int s = 0; s < SHELVES; s++) {
            shelves[s] = new Shelf();
        }
    }

    // ---- SHELVES

    public int row(int s, int sort, int n) {
        if (!isShelf(s)) {
            return refuse(NOBODY);
        }
        if (n < 0) {
            return refuse(BELOW);
        }
        if (sort < 0 || sort >= SORTS_OF_ROWS) {
            return refuse(WRONG);
        }
        if (n > MOST_ELEMENTS) {
            return refuse(ROOM);
        }
        shelves[s].holdRow(sort, n);
        return 1;
    }

    public int set(int s, int i, long v) {
        int refusal = rowRefusal(s);
        if (refusal != NOT_REFUSED) {
            return refuse(refusal);
        }
        if (!shelves[s].hasElement(i)) {
            return refuse(BEYOND);
        }
        shelves[s].put(i, v);
        return 1;
    }

    public int copy(int p, int q, int i, int j, int n) {
        int refusal = copyRefusal(p, q, i, j, n);
        if (refusal != NOT_REFUSED) {
            return refuse(refusal);
        }
        System.arraycopy(shelves[p].elements, i, shelves[q].elements, j, n);
        return 1;
    }

    public long element(int s, int i) {
        return isShelf(s) && shelves[s].hasElement(i) ? shelves[s].elements[i] : 0L;
    }

    public int show(int s, int rider) {
        if (!isShelf(s) || (rider != NONE && !truth.has(rider))) {
            return refuse(NOBODY);
        }
        shelves[s].hold(rider);
        return rider == NONE ? 0 : 1;
    }

    public int holds(int s) {
        return isShelf(s) ? shelves[s].content : NONE;
    }

    public int says(int s, int kind) {
        if (!isShelf(s) || !isKind(kind)) {
            return refuse(NOBODY);
        }
        if (shelves[s].content == NONE) {
            return refuse(NOTHING);
        }
        int shown = shelves[s].content;
        if (!truth.has(shown) || !truth.riders[shown].isOf(kind)) {
            return refuse(OTHER);
        }
        return saying(truth.riders[shown], kind);
    }

    // ---- RIDERS and THE HILL

    public int rider(int kind, int a) {
        if (!isKind(kind)) {
            return refuse(NOBODY);
        }
        if (!isIn(a, 0, MOST_A)) {
            return refuse(WRONG);
        }
        if (!truth.hasRoom()) {
            return refuse(ROOM);
        }
        return truth.addRider(kind, a);
    }

    public int riderOf(int rider, int what) {
        if (!truth.has(rider)) {
            return refuse(BEYOND);
        }
        Rider asked = truth.riders[rider];
        switch (what) {
            case 0: return asked.kind;
            case 1: return asked.a;
            case 2: return asked.where;
            case 3: return asked.tired;
            case 4: return asked.runs;
            case 5: return asked.waited;
            default: return refuse(BEYOND);
        }
    }

    public int tell(int rider, int what, int v) {
        if (!truth.has(rider)) {
            return refuse(NOBODY);
        }
        Rider told = truth.riders[rider];
        int was;
        if (what == 0 && isIn(v, AT_FOOT, AT_TOP)) {
            was = told.where;
            told.where = v;
        } else if (what == 1 && isIn(v, 0, MOST_TIRED)) {
            was = told.tired;
            told.tired = v;
        } else {
            return refuse(WRONG);
        }
        return was;
    }

    public int sledges(int foot, int top) {
        if (!isIn(foot, 0, MOST_SLEDGES) || !isIn(top, 0, MOST_SLEDGES - foot)) {
            return refuse(WRONG);
        }
        truth.foot = foot;
        truth.top = top;
        return foot + top;
    }

    public int ask(int what, int v) {
        int was;
        if (what == 0 && isIn(v, 0, MOST_MINUTES)) {
            was = truth.minutes;
            truth.minutes = v;
        } else if (what == 1 && isIn(v, 0, MOST_PENNIES)) {
            was = truth.pennies;
            truth.pennies = v;
        } else if (what == 2 && isIn(v, 1, MOST_STEEP)) {
            was = truth.steep;
            truth.steep = v;
        } else if (what == 3 && isIn(v, 1, MOST_LONG)) {
            was = truth.length;
            truth.length = v;
        } else {
            return refuse(WRONG);
        }
        return was;
    }

    public int hill(int s) {
        int refusal = rowRefusal(s);
        if (refusal != NOT_REFUSED) {
            return refuse(refusal);
        }
        int items = reader.read(truth, shelves[s]);
        latestFault = reader.fault;
        if (latestFault != NONE) {
            return refuse(WRONG);
        }
        truth.become(reader.hill);
        return items;
    }

    public int fault() {
        return latestFault;
    }

    // ---- MOVES and what comes of them

    public int takes(int move) {
        int minutes = truth.minutesOf(move);
        return minutes == NONE ? refuse(WRONG) : minutes;
    }

    public int may(int move) {
        if (!truth.isMove(move)) {
            return refuse(WRONG);
        }
        return truth.mayBe(move) ? 1 : 0;
    }

    public int next(int i) {
        int count = truth.list(DOWN, REST);
        if (i == NONE) {
            return count;
        }
        return i >= 0 && i < count ? truth.moves[i] : refuse(BEYOND);
    }

    public int ahead(int d, int i) {
        if (i < NONE) {
            return refuse(BEYOND);
        }
        if (!isIn(d, 1, MOST_AHEAD)) {
            return refuse(WRONG);
        }
        lookahead.find(truth, d);
        if (i == NONE) {
            return lookahead.runs;
        }
        return i < lookahead.length ? lookahead.best[i] : refuse(BEYOND);
    }

    // ---- RULES

    public int by(int rule, int what) {
        if (what != NONE && what != 4 && what != 5 && !truth.has(what)) {
            return refuse(BEYOND);
        }
        if (!isRule(rule)) {
            return refuse(WRONG);
        }
        int made = sharing.play(truth, rule, MOST_BY_RULE, NONE);
        switch (what) {
            case NONE: return sharing.hill.allRuns() - truth.allRuns();
            case 4: return sharing.hill.minutes;
            case 5: return made;
            default: return runsMore(what);
        }
    }

    public int fair(int rule) {
        if (truth.count == 0) {
            return refuse(BEYOND);
        }
        if (!isRule(rule)) {
            return refuse(WRONG);
        }
        sharing.play(truth, rule, MOST_BY_RULE, NONE);
        return sharing.hill.runsApart();
    }

    public int best(int what) {
        if (truth.count == 0 || !isIn(what, 0, 1)) {
            return refuse(BEYOND);
        }
        int best = 0;
        int worth = 0;
        for (int rule = 0; rule < RULES; rule++) {
            sharing.play(truth, rule, MOST_BY_RULE, NONE);
            int its = what == 0 ? sharing.hill.allRuns() : -sharing.hill.runsApart();
            if (rule == 0 || its > worth) {
                best = rule;
                worth = its;
            }
        }
        return best;
    }

    public int fits(int s) {
        int refusal = rowRefusal(s);
        if (refusal == NOT_REFUSED && shelves[s].size < truth.count) {
            refusal = BEYOND;
        }
        if (refusal != NOT_REFUSED) {
            return refuse(refusal);
        }
        int bits = 0;
        for (int rule = 0; rule < RULES; rule++) {
            sharing.play(truth, rule, MOST_BY_RULE, NONE);
            if (hadSo(shelves[s])) {
                bits |= 1 << rule;
            }
        }
        return bits;
    }

    public int pennies(int n) {
        if (truth.count == 0) {
            return refuse(BEYOND);
        }
        if (!isIn(n, 0, MOST_LEAST_PENNIES)) {
            return refuse(WRONG);
        }
        int least = 0;
        int most = 0;
        for (int lifts = 0; lifts <= n; lifts++) {
            sharing.play(truth, TURNS, MOST_BY_RULE, lifts);
            int runs = sharing.hill.allRuns();
            if (lifts == 0 || runs > most) {
                least = lifts;
                most = runs;
            }
        }
        return least;
    }

    public int who(int what) {
        if (truth.count == 0 || !isIn(what, 0, 2)) {
            return refuse(BEYOND);
        }
        int first = 0;
        for (int r = 1; r < truth.count; r++) {
            if (standing(truth.riders[r], what) > standing(truth.riders[first], what)) {
                first = r;
            }
        }
        return first;
    }

    // ---- told afternoons

    public int judge(int s, int n) {
        int refusal = toldRefusal(s, n, true);
        return refusal != NOT_REFUSED ? refuse(refusal) - JUDGE_LESS : firstWrong(shelves[s], n);
    }

    public int behind(int s, int n, int what) {
        int refusal = toldRefusal(s, n, isIn(what, 0, 3));
        if (refusal != NOT_REFUSED) {
            return refuse(refusal);
        }
        if (firstWrong(shelves[s], n) != NONE) {
            return refuse(WRONG);
        }
        switch (what) {
            case 0: return trial.allRuns();
            case 1: return trial.minutes;
            case 2: return trial.allWaited();
            default: return trial.pennies;
        }
    }

    public int done(int s, int n) {
        int refusal = toldRefusal(s, n, true);
        if (refusal != NOT_REFUSED) {
            return refuse(refusal);
        }
        if (firstWrong(shelves[s], n) != NONE) {
            return refuse(WRONG);
        }
        truth.become(trial);
        return truth.minutes;
    }

    // ---- one horse for two

    public int road(int rider, int other, int n, int w, int what) {
        if (!truth.has(rider) || !truth.has(other)) {
            return refuse(NOBODY);
        }
        if (!isIn(what, 0, 1)) {
            return refuse(BEYOND);
        }
        if (!isIn(n, 1, MOST_STONES) || !isIn(w, 1, MOST_MINUTES_A_STONE) || rider == other) {
            return refuse(WRONG);
        }
        int tie = 0;
        int soonest = 0;
        for (int k = 0; k <= n; k++) {
            int later = laterThere(truth.riders[rider].onFoot(), truth.riders[other].onFoot(), n, w, k);
            if (k == 0 || later < soonest) {
                tie = k;
                soonest = later;
            }
        }
        return what == 0 ? tie : soonest;
    }

    // ---- in truth

    public int move(int move) {
        return truth.make(move) ? truth.minutes : refuse(WRONG);
    }

    public int goes(int rule, int n) {
        if (!isRule(rule) || !isIn(n, 1, MOST_TOLD)) {
            return refuse(WRONG);
        }
        int made = sharing.play(truth, rule, n, NONE);
        truth.become(sharing.hill);
        return made;
    }

    public int winter(int n) {
        if (!isIn(n, 1, MOST_TOLD)) {
            return refuse(WRONG);
        }
        int before = truth.allRuns();
        for (int t = 0; t < n; t++) {
            int count = truth.list(DOWN, REST);
            if (count > 0) {
                truth.make(truth.moves[truth.drawBelow(count)]);
            }
        }
        return truth.allRuns() - before;
    }

    public int day(int v) {
        if (!isIn(v, 0, MOST_MINUTES)) {
            return refuse(WRONG);
        }
        int before = truth.allRuns();
        truth.beginDay(v);
        return before;
    }

    public int seed(int v) {
        int was = truth.seed;
        truth.seed = v;
        return was;
    }

    // ---- ACTS

    public int act(int rider, int act, int x) {
        bodies.clear();
        if (!truth.has(rider) || !isIn(act, RIDES, WAITS)) {
            return 0;
        }
        return perform(truth.riders[rider], act, truth.riders[rider].kind, x, bodies, 0);
    }

    public int trace(int i) {
        return bodies.bodyAt(i);
    }

    // ---- THE IMAGE and how many there are

    public int image() {
        kept.become(truth);
        hasImage = true;
        return truth.count;
    }

    public int restore() {
        if (!hasImage) {
            return refuse(WRONG);
        }
        truth.become(kept);
        for (int s = 0; s < SHELVES; s++) {
            if (shelves[s].hasRider() && !truth.has(shelves[s].content)) {
                shelves[s].hold(NONE);
            }
        }
        return truth.count;
    }

    public int status(int what) {
        switch (what) {
            case 0: return truth.count;
            case 1: return truth.atTop();
            case 2: return truth.foot;
            case 3: return truth.top;
            case 4: return truth.minutes;
            case 5: return truth.pennies;
            case 6: return truth.steep;
            case 7: return truth.length;
            case 8: return truth.allRuns();
            case 9: return truth.seed;
            case 10: return bodies.ran;
            default: return isIn(what, 11, 10 + REFUSALS) ? refused[what - 11] : NONE;
        }
    }

    // ---- what is refused

    private int refuse(int refusal) {
        int at = -refusal - 1;
        if (at >= 0 && at < REFUSALS) {
            refused[at]++;
        }
        return refusal;
    }

    private int rowRefusal(int s) {
        if (!isShelf(s)) {
            return NOBODY;
        }
        if (shelves[s].hasRider()) {
            return OTHER;
        }
        return shelves[s].hasRow() ? NOT_REFUSED : NOTHING;
    }

    private int copyRefusal(int p, int q, int i, int j, int n) {
        if (!isShelf(p) || !isShelf(q)) {
            return NOBODY;
        }
        Shelf from = shelves[p];
        Shelf to = shelves[q];
        boolean twoSorts = from.hasRow() && to.hasRow() && from.content != to.content;
        if (from.hasRider() || to.hasRider() || twoSorts) {
            return OTHER;
        }
        if (!from.hasRow() || !to.hasRow()) {
            return NOTHING;
        }
        if (n < 0) {
            return BELOW;
        }
        boolean stands = i >= 0 && j >= 0 && i <= from.size - n && j <= to.size - n;
        return stands ? NOT_REFUSED : BEYOND;
    }

    /** Of n MOVES told by the ROW in a SHELF; known: whether what is asked of them is something to be told of. */
    private int toldRefusal(int s, int n, boolean known) {
        int refusal = rowRefusal(s);
        if (refusal != NOT_REFUSED) {
            return refusal;
        }
        if (n < 0) {
            return BELOW;
        }
        if (n > shelves[s].size || !known) {
            return BEYOND;
        }
        return n > MOST_TOLD ? WRONG : NOT_REFUSED;
    }

    private static boolean isShelf(int s) {
        return s >= 0 && s < SHELVES;
    }

    private static boolean isKind(int kind) {
        return kind >= 0 && kind < KINDS;
    }

    private static boolean isRule(int rule) {
        return rule >= 0 && rule < RULES;
    }

    private static boolean isIn(int v, int least, int most) {
        return v >= least && v <= most;
    }

    // ---- what is counted

    private int saying(Rider shown, int kind) {
        switch (kind) {
            case RIDER: return shown.runs;
            case HEAVY:
            case STEERER: return shown.downAlone(truth.length);
            case STRONG:
            case TOUGH: return shown.pullAlone(truth.steep);
            default: return shown.walkUp(truth.steep);
        }
    }

    /** By what who() takes the greatest: so the least TIRED is the one with the greatest below 0. */
    private static int standing(Rider rider, int what) {
        switch (what) {
            case 0: return -rider.tired;
            case 1: return rider.runs;
            default: return rider.waited;
        }
    }

    /** How many RUNS more a RIDER has by the RULE that was played. */
    private int runsMore(int rider) {
        return truth.has(rider) ? sharing.hill.riders[rider].runs - truth.riders[rider].runs : 0;
    }

    /** Whether the RUNS more by the RULE that was played are those of a ROW. */
    private boolean hadSo(Shelf row) {
        for (int r = 0; r < truth.count; r++) {
            if (runsMore(r) != row.asInt(r)) {
                return false;
            }
        }
        return true;
    }

    /** Plays the first n MOVES of a ROW on the trial: the first that MAY not be, or NONE. */
    private int firstWrong(Shelf row, int n) {
        trial.become(truth);
        for (int i = 0; i < n; i++) {
            if (!trial.make(row.asInt(i))) {
                return i;
            }
        }
        return NONE;
    }

    /** When the later of both is there, the horse being tied at stone k of n. */
    private static int laterThere(int firstOnFoot, int otherOnFoot, int n, int w, int k) {
        int first = k * w + (n - k) * firstOnFoot;
        int other = Math.max(k * otherOnFoot, k * w) + (n - k) * w;
        return Math.max(first, other);
    }

    /** Runs the body that a KIND has for an ACT, and those that it calls; the kind is the RIDER's or one above. */
    private static int perform(Rider rider, int act, int kind, int x, Trace trace, int depth) {
        if (depth >= DEEPEST_ACT || !isKind(kind)) {
            return 0;
        }
        int body = act == RIDES ? RIDES_BODIES[kind] : act == PULLS ? PULLS_BODIES[kind] : WAITS_BODIES[kind];
        trace.note(body);
        int own = rider.kind;
        int deeper = depth + 1;
        switch (body) {
            case 10: return x + rider.number;
            case 11: return perform(rider, RIDES, own, x, trace, deeper) * 2;
            case 12: return perform(rider, PULLS, own, x, trace, deeper)
                    ^ perform(rider, RIDES, own, x - rider.a, trace, deeper);
            case 20: return perform(rider, RIDES, ABOVE[HEAVY], x, trace, deeper) + rider.a;
            case 30: return perform(rider, PULLS, ABOVE[STRONG], x, trace, deeper) * 3;
            case 40: return perform(rider, PULLS, ABOVE[STEERER], x + 1, trace, deeper);
            case 50: return -perform(rider, WAITS, ABOVE[SMALL], x, trace, deeper);
            case 51: return perform(rider, RIDES, ABOVE[SMALL], x, trace, deeper) - rider.number;
            case 60: return perform(rider, WAITS, ABOVE[TOUGH], x, trace, deeper) ^ 5;
            case 70: return perform(rider, RIDES, ABOVE[BABY], x, trace, deeper) * 2;
            default: return perform(rider, PULLS, ABOVE[BABY], x - rider.a, trace, deeper);
        }
    }

    /** A RIDER: what he is, and where, how TIRED he is, what he had. */
    private static final class Rider {
        final int number;
        int kind;
        int a;
        int where;
        int tired;
        int runs;
        int waited;

        Rider(int number) {
            this.number = number;
        }

        void begin(int newKind, int newA) {
            kind = newKind;
            a = newA;
            beginDay();
        }

        void beginDay() {
            where = AT_FOOT;
            tired = 0;
            runs = 0;
            waited = 0;
        }

        void become(Rider other) {
            kind = other.kind;
            a = other.a;
            where = other.where;
            tired = other.tired;
            runs = other.runs;
            waited = other.waited;
        }

        boolean isOf(int wanted) {
            return wanted == RIDER || wanted == kind || (isKind(kind) && wanted == ABOVE[kind]);
        }

        int downAlone(int length) {
            int minutes = length;
            switch (kind) {
                case HEAVY: minutes -= 1; break;
                case STEERER: minutes -= 2; break;
                case SMALL:
                case BABY: minutes += 1; break;
                default: break;
            }
            return minutes < 1 ? 1 : minutes;
        }

        int pullAlone(int steep) {
            int minutes = steep + tired / 10;
            switch (kind) {
                case STRONG: minutes -= 2; break;
                case TOUGH: minutes -= 3; break;
                case SMALL: minutes += 2; break;
                case BABY: minutes *= 2; break;
                default: break;
            }
            return minutes < 1 ? 1 : minutes;
        }

        int walkUp(int steep) {
            return steep / 2 + tired / 10 + 1;
        }

        /** How many minutes a stone he takes on the road. */
        int onFoot() {
            return 10 + a;
        }

        /** He moves by a SORT. */
        void comeAlong(int sort) {
            int byPull = kind == STRONG || kind == TOUGH ? 5 : 8 + a;
            where = where == AT_TOP ? AT_FOOT : AT_TOP;
            switch (sort) {
                case DOWN:
                case DOWN_BY_TWO: runs++; break;
                case PULL: tired += byPull; break;
                case PULL_BY_TWO: tired += byPull / 2; break;
                case WALK_UP: tired += 3; break;
                default: break;
            }
            tired = Math.min(tired, MOST_TIRED);
        }

        void recover(int minutes) {
            tired = Math.max(tired - minutes, 0);
        }
    }

    /** A HILL: all that THE IMAGE has. */
    private static final class Hill {
        /** Above how many MOVES there are of four RIDERS: five SORTS alone, two by two, REST. */
        private static final int MOST_MOVES = 40;

        final Rider[] riders = new Rider[MOST_RIDERS];
        int count;
        int foot = 1;
        int top;
        int minutes = 60;
        int pennies;
        int steep = 6;
        int length = 3;
        int seed = 1;
        /** What list() found; no part of the HILL itself. */
        final int[] moves = new int[MOST_MOVES];

        Hill() {
            for (int r = 0; r < MOST_RIDERS; r++) {
                riders[r] = new Rider(r);
            }
        }

        void become(Hill other) {
            count = other.count;
            for (int r = 0; r < count; r++) {
                riders[r].become(other.riders[r]);
            }
            foot = other.foot;
            top = other.top;
            minutes = other.minutes;
            pennies = other.pennies;
            steep = other.steep;
            length = other.length;
            seed = other.seed;
        }

        void beginDay(int newMinutes) {
            for (int r = 0; r < count; r++) {
                riders[r].beginDay();
            }
            foot += top;
            top = 0;
            minutes = newMinutes;
        }

        boolean has(int rider) {
            return rider >= 0 && rider < count;
        }

        boolean hasRoom() {
            return count < MOST_RIDERS;
        }

        int addRider(int kind, int a) {
            if (!hasRoom()) {
                return NONE;
            }
            riders[count].begin(kind, a);
            count++;
            return count - 1;
        }

        int atTop() {
            int bits = 0;
            for (int r = 0; r < count; r++) {
                if (riders[r].where == AT_TOP) {
                    bits |= 1 << r;
                }
            }
            return bits;
        }

        int allRuns() {
            int all = 0;
            for (int r = 0; r < count; r++) {
                all += riders[r].runs;
            }
            return all;
        }

        int allWaited() {
            int all = 0;
            for (int r = 0; r < count; r++) {
                all += riders[r].waited;
            }
            return all;
        }

        /** The greatest RUNS less the least. */
        int runsApart() {
            int greatest = riders[0].runs;
            int least = greatest;
            for (int r = 1; r < count; r++) {
                greatest = Math.max(greatest, riders[r].runs);
                least = Math.min(least, riders[r].runs);
            }
            return greatest - least;
        }

        /** A DRAW below n. */
        int drawBelow(int n) {
            seed = seed * 1103515245 + 12345;
            return n > 0 ? (seed >>> 16) % n : 0;
        }

        static int moveOf(int sort, int one, int two) {
            return 100 * sort + 10 * one + two;
        }

        static int sortOf(int move) {
            return move / 100;
        }

        static boolean isByTwo(int sort) {
            return sort == DOWN_BY_TWO || sort == PULL_BY_TWO;
        }

        /** How many RUNS come by a MOVE. */
        static int runsOf(int move) {
            switch (sortOf(move)) {
                case DOWN: return 1;
                case DOWN_BY_TWO: return 2;
                default: return 0;
            }
        }

        /** It asks has() and isByTwo() in its own words, for it stands where calls are already seven deep. */
        boolean isMove(int move) {
            int sort = move / 100;
            int one = move / 10 % 10;
            int two = move % 10;
            if (move < 0 || sort >= REST) {
                return move == 100 * REST;
            }
            boolean byTwo = sort == DOWN_BY_TWO || sort == PULL_BY_TWO;
            return one < count && (byTwo ? two > one && two < count : two == 0);
        }

        /** How many minutes a MOVE takes; NONE: it is none. */
        int minutesOf(int move) {
            if (!isMove(move)) {
                return NONE;
            }
            Rider one = riders[move / 10 % 10];
            Rider two = riders[move % 10];
            switch (sortOf(move)) {
                case DOWN: return one.downAlone(length);
                case DOWN_BY_TWO: return Math.max(1, Math.min(one.downAlone(length), two.downAlone(length)) - 1);
                case PULL: return one.pullAlone(steep);
                case PULL_BY_TWO: return Math.max(1, (one.pullAlone(steep) + two.pullAlone(steep)) / 2);
                case WALK_UP: return one.walkUp(steep);
                case LIFT: return 2;
                case WALK_DOWN: return length + 1;
                default: return 5;
            }
        }

        boolean mayBe(int move) {
            int needed = minutesOf(move);
            if (needed == NONE || needed > minutes) {
                return false;
            }
            boolean oneAtTop = riders[move / 10 % 10].where == AT_TOP;
            boolean twoAtTop = riders[move % 10].where == AT_TOP;
            switch (sortOf(move)) {
                case DOWN: return oneAtTop && top > 0;
                case DOWN_BY_TWO: return oneAtTop && twoAtTop && top > 0;
                case PULL: return !oneAtTop && foot > 0;
                case PULL_BY_TWO: return !oneAtTop && !twoAtTop && foot > 0;
                case WALK_UP: return !oneAtTop;
                case LIFT: return !oneAtTop && foot > 0 && pennies > 0;
                case WALK_DOWN: return oneAtTop;
                default: return true;
            }
        }

        /** Makes a MOVE; false, and nothing comes of it: it MAY not be. */
        boolean make(int move) {
            if (!mayBe(move)) {
                return false;
            }
            int spent = minutesOf(move);
            int sort = sortOf(move);
            for (int r = 0; r < count; r++) {
                if (takesPart(move, r)) {
                    riders[r].comeAlong(sort);
                } else {
                    riders[r].recover(spent);
                    riders[r].waited += sort == REST ? 0 : spent;
                }
            }
            minutes -= spent;
            bringSledge(sort);
            return true;
        }

        private static boolean takesPart(int move, int rider) {
            int sort = sortOf(move);
            return sort != REST && (rider == move / 10 % 10 || (isByTwo(sort) && rider == move % 10));
        }

        private void bringSledge(int sort) {
            switch (sort) {
                case DOWN:
                case DOWN_BY_TWO:
                    top--;
                    foot++;
                    break;
                case LIFT:
                    pennies--;
                    foot--;
                    top++;
                    break;
                case PULL:
                case PULL_BY_TWO:
                    foot--;
                    top++;
                    break;
                default:
                    break;
            }
        }

        /** Lists in moves all MOVES of the SORTS least to most that MAY be, by numbers: how many. */
        int list(int least, int most) {
            int found = 0;
            for (int sort = least; sort <= most; sort++) {
                int lastOne = sort == REST ? 0 : count - 1;
                for (int one = 0; one <= lastOne; one++) {
                    int two = isByTwo(sort) ? one + 1 : 0;
                    int lastTwo = isByTwo(sort) ? count - 1 : 0;
                    for (; two <= lastTwo; two++) {
                        int move = moveOf(sort, one, two);
                        if (found < MOST_MOVES && mayBe(move)) {
                            moves[found] = move;
                            found++;
                        }
                    }
                }
            }
            return found;
        }
    }

    /** Plays by a RULE on a hill of its own. */
    private static final class Sharing {
        final Hill hill = new Hill();
        /** Of TURNS: whether a LIFT takes a PULL's place, and whose turn it is. */
        boolean lifted;
        int turn;

        /** From how it stands in truth, so many MOVES at most, with LIFTS for so many PENNIES (NONE: no LIFTS). */
        int play(Hill truth, int rule, int most, int lifts) {
            hill.become(truth);
            lifted = lifts != NONE;
            if (lifted) {
                hill.pennies = lifts;
            }
            turn = 0;
            int made = 0;
            boolean goesOn = true;
            while (goesOn && made < most) {
                int move;
                switch (rule) {
                    case TOGETHER: move = together(); break;
                    case TURNS: move = inTurns(); break;
                    case RESTED: move = rested(); break;
                    default: move = strongest(); break;
                }
                goesOn = hill.make(move);
                made += goesOn ? 1 : 0;
            }
            return made;
        }

        private int together() {
            int down = Hill.moveOf(DOWN_BY_TWO, 0, 1);
            return hill.mayBe(down) ? down : Hill.moveOf(PULL_BY_TWO, 0, 1);
        }

        /** The turn stays with one who goes DOWN: at the FOOT then, he is asked for nothing but a PULL. */
        private int inTurns() {
            for (int asked = 0; asked < hill.count; asked++) {
                int down = Hill.moveOf(DOWN, turn, 0);
                int pull = Hill.moveOf(PULL, turn, 0);
                int lift = Hill.moveOf(LIFT, turn, 0);
                if (hill.mayBe(down)) {
                    return down;
                }
                turn = turn + 1 < hill.count ? turn + 1 : 0;
                if (lifted && hill.mayBe(lift)) {
                    return lift;
                }
                if (hill.mayBe(pull)) {
                    return pull;
                }
            }
            return NONE;
        }

        private int rested() {
            int down = leastTired(hill.list(DOWN, DOWN));
            return down != NONE ? down : leastTired(hill.list(PULL, PULL));
        }

        private int leastTired(int listed) {
            int best = NONE;
            int least = MOST_TIRED + 1;
            for (int i = 0; i < listed; i++) {
                int tired = hill.riders[hill.moves[i] / 10 % 10].tired;
                if (tired < least) {
                    best = hill.moves[i];
                    least = tired;
                }
            }
            return best;
        }

        private int strongest() {
            if (hill.list(DOWN_BY_TWO, DOWN_BY_TWO) > 0) {
                return hill.moves[0];
            }
            int pulls = hill.list(PULL, PULL);
            if (pulls > 0) {
                return quickest(pulls);
            }
            if (hill.list(WALK_UP, WALK_UP) > 0) {
                return hill.moves[0];
            }
            return hill.list(DOWN, DOWN) > 0 ? hill.moves[0] : NONE;
        }

        private int quickest(int listed) {
            int best = hill.moves[0];
            for (int i = 1; i < listed; i++) {
                if (hill.minutesOf(hill.moves[i]) < hill.minutesOf(best)) {
                    best = hill.moves[i];
                }
            }
            return best;
        }
    }

    /** Finds AHEAD: the row of MOVES with most RUNS more. */
    private static final class Lookahead {
        final Hill[] hills = new Hill[MOST_AHEAD];
        final int[] path = new int[MOST_AHEAD];
        final int[] best = new int[MOST_AHEAD];
        int length;
        int runs;
        int minutes;

        Lookahead() {
            for (int h = 0; h < MOST_AHEAD; h++) {
                hills[h] = new Hill();
            }
        }

        /** The row of no MOVES is the first to be beaten. */
        void find(Hill truth, int depth) {
            hills[0].become(truth);
            length = 0;
            runs = 0;
            minutes = 0;
            look(this, 0, Math.min(depth, MOST_AHEAD), 0, 0);
        }

        /** Looks at all rows that go on behind the path's first MOVES, in their order: a later one must be better. */
        private static void look(Lookahead ahead, int at, int depth, int runs, int minutes) {
            if (at < 0 || at >= depth || depth > MOST_AHEAD) {
                return;
            }
            Hill hill = ahead.hills[at];
            int listed = hill.list(DOWN, REST);
            for (int i = 0; i < listed; i++) {
                int move = hill.moves[i];
                int newRuns = runs + Hill.runsOf(move);
                int newMinutes = minutes + hill.minutesOf(move);
                ahead.path[at] = move;
                ahead.compare(at + 1, newRuns, newMinutes);
                if (at + 1 < depth) {
                    ahead.hills[at + 1].become(hill);
                    ahead.hills[at + 1].make(move);
                    look(ahead, at + 1, depth, newRuns, newMinutes);
                }
            }
        }

        private void compare(int newLength, int newRuns, int newMinutes) {
            if (newRuns > runs || (newRuns == runs && newMinutes < minutes)) {
                length = newLength;
                runs = newRuns;
                minutes = newMinutes;
                System.arraycopy(path, 0, best, 0, MOST_AHEAD);
            }
        }
    }

    /** Reads a HILL from a ROW of letters and tells it over a hill of its own. */
    private static final class Reader {
        private static final int WORDS = 8;
        private static final int MOST_DIGITS = 3;

        final Hill hill = new Hill();
        final int[] letters = new int[MOST_ELEMENTS];
        int size;
        int at;
        int fault = NONE;
        /** Where the latest NUMBER begins. */
        int numberAt;

        /** How many ITEMS there are, over what there is in truth; they stand if the fault is NONE. */
        int read(Hill truth, Shelf row) {
            hill.become(truth);
            size = row.size;
            for (int i = 0; i < size; i++) {
                letters[i] = row.asInt(i);
            }
            at = 0;
            fault = NONE;
            readItem();
            int items = 1;
            while (fault == NONE && at < size && items <= size) {
                expect(';');
                readItem();
                items++;
            }
            return items;
        }

        private void readItem() {
            if (fault != NONE) {
                return;
            }
            int begin = at;
            switch (readWord()) {
                case 0: readRider(begin); break;
                case 1: place(AT_TOP); break;
                case 2: place(AT_FOOT); break;
                case 3:
                    hill.foot = readNumber(0, MOST_SLEDGES);
                    hill.top = readNumber(0, MOST_SLEDGES - hill.foot);
                    break;
                case 4: hill.minutes = readNumber(0, MOST_MINUTES); break;
                case 5: hill.pennies = readNumber(0, MOST_PENNIES); break;
                case 6:
                    hill.steep = readNumber(1, MOST_STEEP);
                    hill.length = readNumber(1, MOST_LONG);
                    break;
                case 7:
                    int move = readNumber(0, 999);
                    if (fault == NONE && !hill.make(move)) {
                        fault = numberAt;
                    }
                    break;
                default: break;
            }
        }

        private void readRider(int begin) {
            if (!hill.hasRoom()) {
                fault = begin;
            }
            int kind = readNumber(0, KINDS - 1);
            int a = readNumber(0, MOST_A);
            if (fault == NONE) {
                hill.addRider(kind, a);
            }
        }

        private void place(int where) {
            int rider = readNumber(0, hill.count - 1);
            if (hill.has(rider)) {
                hill.riders[rider].where = where;
            }
        }

        private static String word(int number) {
            switch (number) {
                case 0: return "rider";
                case 1: return "top";
                case 2: return "foot";
                case 3: return "sledges";
                case 4: return "minutes";
                case 5: return "pennies";
                case 6: return "hill";
                default: return "move";
            }
        }

        /** The word that stands whole here, or NONE: then the FAULT is behind the letters that one of them has so. */
        private int readWord() {
            int longest = 0;
            for (int number = 0; number < WORDS; number++) {
                String word = word(number);
                int same = 0;
                while (same < word.length() && letterAt(at + same) == word.charAt(same)) {
                    same++;
                }
                if (same == word.length()) {
                    at += same;
                    return number;
                }
                longest = Math.max(longest, same);
            }
            fault = at + longest;
            return NONE;
        }

        /** A blank and a NUMBER; NONE: there is a FAULT here or ahead of here. */
        private int readNumber(int least, int most) {
            expect(' ');
            if (fault != NONE) {
                return NONE;
            }
            numberAt = at;
            int value = 0;
            while (at < numberAt + MOST_DIGITS && letterAt(at) >= '0' && letterAt(at) <= '9') {
                value = 10 * value + letterAt(at) - '0';
                at++;
            }
            if (at == numberAt || value < least || value > most) {
                fault = numberAt;
                return NONE;
            }
            return value;
        }

        private void expect(char sign) {
            if (fault == NONE && letterAt(at) != sign) {
                fault = at;
            }
            at++;
        }

        /** NONE, which is no letter, behind the end. */
        private int letterAt(int i) {
            return i >= 0 && i < size ? letters[i] : NONE;
        }
    }

    /** THE TRACE of the latest ACT. */
    private static final class Trace {
        final int[] kept = new int[BODIES_KEPT];
        int ran;

        void clear() {
            ran = 0;
        }

        void note(int body) {
            if (ran >= 0 && ran < BODIES_KEPT) {
                kept[ran] = body;
            }
            ran++;
        }

        int bodyAt(int i) {
            return i >= 0 && i < ran && i < BODIES_KEPT ? kept[i] : NONE;
        }
    }

    /** A SHELF; its elements are held as longs that the SORT of the ROW has cut. */
    private static final class Shelf {
        final long[] elements = new long[MOST_ELEMENTS];
        /** As holds() tells it. */
        int content = NONE;
        int size;

        boolean hasRow() {
            return content >= A_ROW;
        }

        boolean hasRider() {
            return content >= 0 && content < A_ROW;
        }

        boolean hasElement(int i) {
            return i >= 0 && i < size;
        }

        /** A RIDER's number, or NONE. */
        void hold(int rider) {
            content = rider;
            size = 0;
        }

        void holdRow(int sort, int n) {
            content = A_ROW + sort;
            size = n;
            for (int i = 0; i < MOST_ELEMENTS; i++) {
                elements[i] = 0L;
            }
        }

        void put(int i, long v) {
            if (!hasElement(i)) {
                return;
            }
            switch (content - A_ROW) {
                case 0: elements[i] = (byte) v; break;
                case 1: elements[i] = (short) v; break;
                case 2: elements[i] = (int) v; break;
                default: elements[i] = v; break;
            }
        }

        int asInt(int i) {
            return hasElement(i) ? (int) elements[i] : 0;
        }
    }
}
