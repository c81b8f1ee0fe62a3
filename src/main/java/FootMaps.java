import java.util.Arrays;

/**
 * Maps that are earned by the foot. The capital words of the document are the
 * names here in small letters; README.md says how the parts hang together.
 */
public final class FootMaps {
    /** There is none. */
    public static final int NONE = -1;

    private static final int BAD_NUMBER = -1;
    private static final int NO_SUCH = -2;
    private static final int CANNOT = -3;
    private static final int NO_ROOM = -5;
    private static final int BAD_TEXT = -6;

    private static final int SIDE = 5;
    private static final int CELLS = 25;
    private static final int ALL_CELLS = (1 << CELLS) - 1;
    private static final int MOST_KIND = 3;
    private static final int BEYOND = 4;
    private static final int MOST_HEIGHT = 9;
    private static final int MOST_WALKERS = 4;
    private static final int MOST_PACE = 9;
    private static final int MOST_WANTS = 6;
    private static final int MOST_WAY = 4;
    private static final int MOST_GLIMPSES = 6;
    private static final int MOST_LAWS = 6;
    private static final int IMAGES = 2;
    private static final int MOST_TAPE = 400;
    private static final int FED = 20;

    private static final int MINUTE = 0;
    private static final int SMEARS = 1;
    private static final int MOOD = 2;
    private static final int TERMS = 3;
    private static final int[] MOST_TERM = {999, 10, 9};

    private static final int LEAST_COST = 1;
    private static final int MOST_COST = 9;
    private static final int LEAST_SIGHT = 0;
    private static final int MOST_SIGHT = 3;
    private static final int WITHOUT_LAW = 1;

    private static final int STEPPED = 0;
    private static final int JOINED = 1;
    private static final int SMEARED = 2;
    private static final int PASSED = 3;
    private static final int MOST_DEEDS = 16;

    private static final int MOST_SEED = 1000000;
    private static final int MOST_DAYS = 60;
    private static final long DRAW_TIMES = 1103;
    private static final long DRAW_MORE = 12345;
    private static final long DRAW_MODULO = 1000003;

    private static final int MOST_FEW = 20;
    private static final int MOST_PACES = 99;
    private static final long WHOLE_CHANCE = 1000000000000L;
    private static final int TENTHS = 10;

    private static final int MOST_CLAUSES = 12;
    private static final int MOST_PARTS = 50;
    private static final int MOST_BRACKETS = 8;
    private static final int MOST_NUMBER = 1000;
    private static final int MOST_TIMES = 20;
    /** Every token makes one piece of code at most, every clause three ends more. */
    private static final int MOST_CODE = 480;
    /** Eight brackets with three values waiting before each, and room to spare. */
    private static final int MOST_STACK = 48;
    private static final long MOST_SUM = 1000000000L;
    private static final long BROKEN = Long.MIN_VALUE;

    /** The words in the order of their token codes, which begin at FIRST_WORD. */
    private static final String WORDS = "costs sees bars if or and not walker kind height rise known pace minute mood step join smear pass to with of times done latest at mapped ";
    private static final int FIRST_WORD = 300;
    private static final int COSTS = 300;
    private static final int SEES = 301;
    private static final int BARS = 302;
    private static final int IF = 303;
    private static final int OR = 304;
    private static final int AND = 305;
    private static final int NOT = 306;
    private static final int WALKER = 307;
    private static final int KIND = 308;
    private static final int MINUTE_WORD = 313;
    private static final int MOOD_WORD = 314;
    private static final int STEP = 315;
    private static final int JOIN = 316;
    private static final int SMEAR = 317;
    private static final int PASS = 318;
    private static final int TO = 319;
    private static final int WITH = 320;
    private static final int OF = 321;
    private static final int TIMES = 322;
    private static final int DONE = 323;
    private static final int LATEST = 324;
    private static final int AT = 325;
    private static final int MAPPED = 326;
    private static final int UNKNOWN_WORD = 400;
    private static final int NUMBER = 401;
    private static final int TEXT_END = 402;

    private static final int LAW_SLOTS = 8;
    private static final int MINUTE_SLOT = 0;
    private static final int DONE_SLOT = 1;
    private static final int LATEST_SLOT = 2;
    private static final int AT_SLOT = 3;
    private static final int MAPPED_SLOT = 7;
    private static final int KIND_SLOT = 11;
    private static final int ORDER_SLOTS = 36;

    private static final int OP_BITS = 5;
    private static final int OP_MASK = 31;
    private static final int OP_END = 0;
    private static final int OP_NUMBER = 1;
    private static final int OP_WORD = 2;
    private static final int OP_NOT = 3;
    private static final int OP_AND = 4;
    private static final int OP_OR = 5;
    private static final int OP_ADD = 6;
    private static final int OP_SUBTRACT = 7;
    private static final int OP_MULTIPLY = 8;
    private static final int OP_DIVIDE = 9;
    private static final int OP_REST = 10;
    private static final int OP_LESS = 11;
    private static final int OP_MORE = 12;
    private static final int OP_SAME = 13;

    /** Above every sum of costs that a walk can have. */
    private static final int FAR = 1000000;
    /** Down, left, right, up: so the cells stepped to come lowest first. */
    private static final int[] WAYS_LOWEST_FIRST = {3, 4, 2, 1};

    private final Land now = new Land();
    private final Land paper = new Land();
    private final Land before = new Land();
    private final Land[] images = new Land[IMAGES];
    private final Deeds deeds = new Deeds();
    private final Deeds deedsBefore = new Deeds();
    private final Reader reader = new Reader();
    private final Rules rules = new Rules();
    private final Walks walks = new Walks();
    private final long[] orderWords = new long[ORDER_SLOTS];
    private final long[] odds = new long[MOST_FEW];
    private final int[] alike = new int[BEYOND + 1];
    private final int[] refused = new int[-BAD_TEXT + 1];
    private int status = 0;
    private int stopped = NONE;
    private int blots = 0;

    public FootMaps() {
    }

    public int cell(int cell, int kind, int height) {
        if (!canLie(cell, kind, height)) {
            return refuse(BAD_NUMBER);
        }
        int had = now.kind[cell];
        now.lay(cell, kind, height);
        return accept(had);
    }

    public int land(int cell, int what) {
        if (!isCell(cell)) {
            return NONE;
        }
        switch (what) {
            case 0:
                return now.kind[cell];
            case 1:
                return now.height[cell];
            case 2:
                return now.whoIsIn(cell);
            default:
                return NONE;
        }
    }

    public int walker(int cell, int pace) {
        if (!isCell(cell) || pace < 1 || pace > MOST_PACE) {
            return refuse(BAD_NUMBER);
        }
        if (now.walkers >= MOST_WALKERS) {
            return refuse(NO_ROOM);
        }
        int number = now.walkers;
        now.addWalker(cell, pace);
        deeds.clear();
        return accept(number);
    }

    public int of(int walker, int what) {
        if (!now.hasWalker(walker)) {
            return NONE;
        }
        switch (what) {
            case 0:
                return now.cell[walker];
            case 1:
                return now.pace[walker];
            case 2:
                return now.wants[walker];
            case 3:
                return Integer.bitCount(now.mapped[walker]);
            case 4:
                return now.mapped[walker];
            case 5:
                return rules.sight(now, now.lawInForce(), walker, now.cell[walker]);
            default:
                return NONE;
        }
    }

    public int sheet(int walker, int cell) {
        if (!now.hasWalker(walker) || !isCell(cell)) {
            return NONE;
        }
        return now.kindOnSheet(walker, cell);
    }

    public int asks(int walker, int way, int what) {
        if (!now.hasWalker(walker) || !isWayAside(way)) {
            return NONE;
        }
        int from = now.cell[walker];
        int to = neighbour(from, way);
        if (to == NONE) {
            return NONE;
        }
        if (what == 0) {
            return rules.cost(now, now.lawInForce(), walker, from, to);
        }
        if (what == 1) {
            return rules.bars(now, now.lawInForce(), walker, from, to) ? 1 : 0;
        }
        return NONE;
    }

    public int wants(int walker, int cells) {
        if ((cells & ~ALL_CELLS) != 0 || Integer.bitCount(cells) > MOST_WANTS) {
            return refuse(BAD_NUMBER);
        }
        if (!now.hasWalker(walker)) {
            return refuse(NO_SUCH);
        }
        int were = now.wants[walker];
        now.wants[walker] = cells;
        return accept(were);
    }

    public int terms(int what, int value) {
        if (what < 0 || what >= TERMS || value < 0 || value > MOST_TERM[what]) {
            return refuse(BAD_NUMBER);
        }
        int was = now.terms[what];
        now.terms[what] = value;
        deeds.clear();
        return accept(was);
    }

    public int feed(int a, int b, int c, int d, int e) {
        if (reader.length + FED > MOST_TAPE) {
            return NONE;
        }
        reader.addFour(a);
        reader.addFour(b);
        reader.addFour(c);
        reader.addFour(d);
        reader.addFour(e);
        return reader.length;
    }

    public int end(int n) {
        if (n < 0 || n > reader.length) {
            return NONE;
        }
        reader.length = n;
        return n;
    }

    public int row() {
        int length = reader.length;
        if (length == 0) {
            return refuse(BAD_TEXT);
        }
        int told = 0;
        blots = 0;
        for (int at = 0; at < length; at += 3) {
            if (at + 2 < length && canLie(reader.tape[at], reader.tape[at + 1], reader.tape[at + 2])) {
                now.lay(reader.tape[at], reader.tape[at + 1], reader.tape[at + 2]);
                told++;
            } else {
                blots++;
            }
        }
        reader.length = 0;
        return accept(told);
    }

    public int blots() {
        return blots;
    }

    public int law() {
        if (now.lawCount >= MOST_LAWS) {
            reader.length = 0;
            return refuse(NO_ROOM);
        }
        if (!reader.reads(false)) {
            return refuse(BAD_TEXT);
        }
        int number = now.lawCount;
        now.laws[number] = new Text(reader.draft);
        now.lawCount = number + 1;
        return accept(number);
    }

    public int orders() {
        stopped = NONE;
        if (!reader.reads(true)) {
            return refuse(BAD_TEXT);
        }
        before.copyFrom(now);
        deedsBefore.copyFrom(deeds);
        orderWords[DONE_SLOT] = 0;
        orderWords[LATEST_SLOT] = NONE;
        Text text = reader.draft;
        for (int clause = 0; clause < text.clauses; clause++) {
            for (int time = 0; time < text.times[clause]; time++) {
                if (!runOnce(text, clause)) {
                    now.copyFrom(before);
                    deeds.copyFrom(deedsBefore);
                    stopped = clause;
                    return refuse(CANNOT);
                }
            }
        }
        return accept((int) orderWords[DONE_SLOT]);
    }

    public int fault() {
        return reader.fault;
    }

    public int stopped() {
        return stopped;
    }

    public int force(int law) {
        if (law != NONE && !now.hasLaw(law)) {
            return refuse(NO_SUCH);
        }
        int was = now.force;
        now.force = law;
        return accept(was);
    }

    public int step(int walker, int way) {
        return settle(tryStep(walker, way));
    }

    public int join(int one, int other) {
        return settle(tryJoin(one, other));
    }

    public int smear(int cell, int walker) {
        return settle(trySmear(cell, walker));
    }

    public int pass() {
        return settle(tryPass());
    }

    public int undo() {
        if (deeds.size == 0) {
            return refuse(CANNOT);
        }
        return accept(deeds.takeBack(now));
    }

    public int way(int walker, int cell, int i) {
        if (!now.hasWalker(walker) || !isCell(cell)) {
            return NONE;
        }
        walks.priceSteps(rules, now, now.lawInForce(), walker, ALL_CELLS);
        walks.countTo(cell);
        return walks.wayTold(now.cell[walker], i);
    }

    public int sure(int walker, int cell, int i) {
        if (!now.hasWalker(walker) || !isCell(cell)) {
            return NONE;
        }
        walks.priceSteps(rules, now, now.lawInForce(), walker, now.mapped[walker]);
        walks.countTo(cell);
        return walks.wayTold(now.cell[walker], i);
    }

    public int tour(int walker, int i) {
        if (!now.hasWalker(walker)) {
            return NONE;
        }
        walks.priceSteps(rules, now, now.lawInForce(), walker, ALL_CELLS);
        int all = walks.seeWanted(rules, now, now.lawInForce(), walker);
        walks.countTours(all);
        return walks.tourTold(now.cell[walker], all, i);
    }

    public int meet(int one, int other, int what) {
        if (!now.hasWalker(one) || !now.hasWalker(other) || one == other) {
            return NONE;
        }
        walks.priceSteps(rules, now, now.lawInForce(), one, ALL_CELLS);
        walks.countFrom(now.cell[one]);
        walks.keepCounts();
        walks.priceSteps(rules, now, now.lawInForce(), other, ALL_CELLS);
        walks.countFrom(now.cell[other]);
        int best = walks.soonestMeeting();
        if (best == NONE || what == 0) {
            return best;
        }
        return what == 1 ? walks.greaterCount(best) : NONE;
    }

    public int stale(int walker) {
        if (!now.hasWalker(walker)) {
            return NONE;
        }
        int bits = 0;
        for (int cell = 0; cell < CELLS; cell++) {
            if (now.knows(walker, cell) && now.kindOnSheet(walker, cell) != now.kind[cell]) {
                bits |= 1 << cell;
            }
        }
        return bits;
    }

    public int both(int i) {
        int found = 0;
        for (int low = 0; low < now.walkers; low++) {
            for (int high = low + 1; high < now.walkers; high++) {
                if (now.wouldGain(low, high) && now.wouldGain(high, low)) {
                    if (found == i) {
                        return 10 * low + high;
                    }
                    found++;
                }
            }
        }
        return i == NONE ? found : NONE;
    }

    public int glimpse(int way, int kind) {
        if (way < 0 || way > MOST_WAY || kind < 0 || kind > BEYOND) {
            return refuse(BAD_NUMBER);
        }
        int often = now.glimpses;
        if (often >= MOST_GLIMPSES) {
            return refuse(NO_ROOM);
        }
        now.glimpseWay[often] = way;
        now.glimpseKind[often] = kind;
        now.glimpses = often + 1;
        return accept(often + 1);
    }

    public int forget() {
        int often = now.glimpses;
        now.glimpses = 0;
        return often;
    }

    public int yard() {
        return now.yardCells();
    }

    public int look(int what) {
        int yard = now.yardCells();
        if (yard == 0) {
            return NONE;
        }
        int bestWay = 0;
        int fewest = CELLS + 1;
        for (int way = 0; way <= MOST_WAY; way++) {
            int most = mostAlike(yard, way);
            if (most < fewest) {
                fewest = most;
                bestWay = way;
            }
        }
        if (what == 0) {
            return bestWay;
        }
        return what == 1 ? fewest : NONE;
    }

    public int reach(int walker) {
        if (!now.hasWalker(walker)) {
            return NONE;
        }
        walks.priceSteps(rules, now, now.lawInForce(), walker, ALL_CELLS);
        walks.countFrom(now.cell[walker]);
        return walks.countedCells();
    }

    public int cover(int what) {
        if (what != 0 && what != 1) {
            return NONE;
        }
        int everyone = (1 << now.walkers) - 1;
        int all = now.mappedBy(everyone);
        int best = everyone;
        for (int who = 0; who < everyone; who++) {
            if (now.mappedBy(who) == all && Integer.bitCount(who) < Integer.bitCount(best)) {
                best = who;
            }
        }
        return what == 0 ? Integer.bitCount(best) : best;
    }

    public long few(int k, int n) {
        if (k < 1 || k > MOST_FEW || n < 0 || n > MOST_PACES) {
            return NONE;
        }
        int smears = now.terms[SMEARS];
        Arrays.fill(odds, 0L);
        odds[0] = WHOLE_CHANCE;
        for (int pace = 0; pace < n; pace++) {
            for (int did = k - 1; did >= 0; did--) {
                long kept = odds[did] * (TENTHS - smears) / TENTHS;
                long more = did > 0 ? odds[did - 1] * smears / TENTHS : 0L;
                odds[did] = kept + more;
            }
        }
        long chance = 0L;
        for (int did = 0; did < k; did++) {
            chance += odds[did];
        }
        return chance;
    }

    public int compare(int law, int walker, int cell) {
        if (law != NONE && !now.hasLaw(law)) {
            return NONE;
        }
        if (!now.hasWalker(walker) || !isCell(cell)) {
            return NONE;
        }
        walks.priceSteps(rules, now, now.lawNumbered(law), walker, ALL_CELLS);
        walks.countTo(cell);
        return walks.wayTold(now.cell[walker], NONE);
    }

    public int days(int seed, int n) {
        if (seed < 0 || seed > MOST_SEED || n < 1 || n > MOST_DAYS) {
            return refuse(BAD_NUMBER);
        }
        if (now.walkers == 0) {
            return refuse(CANNOT);
        }
        paper.copyFrom(now);
        long draw = seed;
        int costs = 0;
        for (int time = 0; time < n && paper.terms[MINUTE] < MOST_TERM[MINUTE]; time++) {
            draw = nextDraw(draw);
            int walker = (int) (draw % now.walkers);
            draw = nextDraw(draw);
            int way = (int) (draw % MOST_WAY) + 1;
            costs += stepOnPaper(walker, way);
            joinOnPaper(walker);
            paper.terms[MINUTE]++;
        }
        return accept(costs);
    }

    public int drawn(int walker, int what) {
        if (!paper.hasWalker(walker)) {
            return NONE;
        }
        if (what == 0) {
            return paper.cell[walker];
        }
        return what == 1 ? paper.mapped[walker] : NONE;
    }

    public int image(int k) {
        if (k < 0 || k >= IMAGES) {
            return refuse(BAD_NUMBER);
        }
        if (images[k] == null) {
            images[k] = new Land();
        }
        images[k].copyFrom(now);
        return accept(0);
    }

    public int back(int k) {
        if (k < 0 || k >= IMAGES) {
            return refuse(BAD_NUMBER);
        }
        if (images[k] == null) {
            return refuse(NO_SUCH);
        }
        now.copyFrom(images[k]);
        deeds.clear();
        return accept(0);
    }

    public int count(int what) {
        switch (what) {
            case 0:
                return now.walkers;
            case 1:
                return now.cellsOfAllSheets();
            case 2:
                return now.glimpses;
            case 3:
                return now.lawCount;
            case 4:
                return deeds.size;
            case 5:
                return reader.length;
            case 6:
                return refused[-BAD_NUMBER];
            case 7:
                return refused[-NO_SUCH];
            case 8:
                return refused[-CANNOT];
            case 9:
                return refused[-NO_ROOM];
            case 10:
                return refused[-BAD_TEXT];
            case 11:
                return now.force;
            case 12:
                return now.terms[MINUTE];
            case 13:
                return now.terms[SMEARS];
            case 14:
                return now.terms[MOOD];
            default:
                return NONE;
        }
    }

    public int status() {
        return status;
    }

    private int accept(int answer) {
        status = 0;
        return answer;
    }

    private int refuse(int by) {
        status = by;
        refused[-by]++;
        return by;
    }

    /** The four deeds tell no number below 0 unless they are refused. */
    private int settle(int told) {
        return told < 0 ? refuse(told) : accept(told);
    }

    private int tryStep(int walker, int way) {
        if (!isWayAside(way)) {
            return BAD_NUMBER;
        }
        if (!now.hasWalker(walker)) {
            return NO_SUCH;
        }
        Text law = now.lawInForce();
        int from = now.cell[walker];
        int to = neighbour(from, way);
        if (to == NONE || rules.bars(now, law, walker, from, to)) {
            return CANNOT;
        }
        int cost = rules.cost(now, law, walker, from, to);
        deeds.add(now, STEPPED, walker, NONE);
        now.comeTo(walker, to, rules.sight(now, law, walker, to));
        return cost;
    }

    private int tryJoin(int one, int other) {
        if (one == other) {
            return BAD_NUMBER;
        }
        if (!now.hasWalker(one) || !now.hasWalker(other)) {
            return NO_SUCH;
        }
        if (now.cell[one] != now.cell[other]) {
            return CANNOT;
        }
        deeds.add(now, JOINED, one, other);
        return now.joinSheets(one, other);
    }

    private int trySmear(int cell, int walker) {
        if (!isCell(cell)) {
            return BAD_NUMBER;
        }
        if (!now.hasWalker(walker)) {
            return NO_SUCH;
        }
        if (!now.knows(walker, cell)) {
            return CANNOT;
        }
        deeds.add(now, SMEARED, walker, NONE);
        now.blank(walker, cell);
        return Integer.bitCount(now.mapped[walker]);
    }

    private int tryPass() {
        if (now.terms[MINUTE] >= MOST_TERM[MINUTE]) {
            return CANNOT;
        }
        deeds.add(now, PASSED, NONE, NONE);
        now.terms[MINUTE]++;
        return now.terms[MINUTE];
    }

    /** False where the order can't be; one whose "if" is not so can always be. */
    private boolean runOnce(Text text, int clause) {
        now.tellOrderWords(orderWords);
        if (rules.worth(text, text.test[clause], orderWords) != 1L) {
            return true;
        }
        long one = rules.worth(text, text.first[clause], orderWords);
        long other = rules.worth(text, text.second[clause], orderWords);
        if (one == BROKEN || other == BROKEN) {
            return false;
        }
        int told;
        switch (text.what[clause]) {
            case STEP:
                told = tryStep((int) one, (int) other);
                break;
            case JOIN:
                told = tryJoin((int) one, (int) other);
                break;
            case SMEAR:
                told = trySmear((int) one, (int) other);
                break;
            default:
                told = tryPass();
                break;
        }
        if (told < 0) {
            return false;
        }
        orderWords[DONE_SLOT]++;
        if (text.what[clause] == STEP) {
            orderWords[LATEST_SLOT] = told;
        }
        return true;
    }

    private int stepOnPaper(int walker, int way) {
        Text law = paper.lawInForce();
        int from = paper.cell[walker];
        int to = neighbour(from, way);
        if (to == NONE || rules.bars(paper, law, walker, from, to)) {
            return 0;
        }
        int cost = rules.cost(paper, law, walker, from, to);
        paper.comeTo(walker, to, rules.sight(paper, law, walker, to));
        return cost;
    }

    private void joinOnPaper(int walker) {
        for (int other = 0; other < paper.walkers; other++) {
            if (other != walker && paper.cell[other] == paper.cell[walker]) {
                paper.joinSheets(walker, other);
                return;
            }
        }
    }

    private int mostAlike(int yard, int way) {
        Arrays.fill(alike, 0);
        int most = 0;
        for (int cell = 0; cell < CELLS; cell++) {
            if ((yard >> cell & 1) == 1) {
                int seen = now.kindByWay(cell, way);
                alike[seen]++;
                most = Math.max(most, alike[seen]);
            }
        }
        return most;
    }

    private static long nextDraw(long draw) {
        return (draw * DRAW_TIMES + DRAW_MORE) % DRAW_MODULO;
    }

    private static boolean isCell(int cell) {
        return cell >= 0 && cell < CELLS;
    }

    private static boolean isWayAside(int way) {
        return way >= 1 && way <= MOST_WAY;
    }

    private static boolean canLie(int cell, int kind, int height) {
        return isCell(cell) && kind >= 0 && kind <= MOST_KIND && height >= 0 && height <= MOST_HEIGHT;
    }

    /** The cell by a way, NONE beyond the edge. */
    private static int neighbour(int cell, int way) {
        int x = cell % SIDE;
        int y = cell / SIDE;
        switch (way) {
            case 0:
                return cell;
            case 1:
                return y < SIDE - 1 ? cell + SIDE : NONE;
            case 2:
                return x < SIDE - 1 ? cell + 1 : NONE;
            case 3:
                return y > 0 ? cell - SIDE : NONE;
            case 4:
                return x > 0 ? cell - 1 : NONE;
            default:
                return NONE;
        }
    }

    private static int cellsInSight(int from, int far) {
        int bits = 0;
        for (int cell = 0; cell < CELLS; cell++) {
            int rows = Math.abs(cell / SIDE - from / SIDE);
            int columns = Math.abs(cell % SIDE - from % SIDE);
            if (rows + columns <= far) {
                bits |= 1 << cell;
            }
        }
        return bits;
    }

    /** All that an image keeps: the land, the walkers, what was glimpsed, terms, laws. */
    private static final class Land {
        final int[] kind = new int[CELLS];
        final int[] height = new int[CELLS];
        int walkers = 0;
        final int[] cell = new int[MOST_WALKERS];
        final int[] pace = new int[MOST_WALKERS];
        final int[] wants = new int[MOST_WALKERS];
        /** Which cells a sheet has, as bits. */
        final int[] mapped = new int[MOST_WALKERS];
        /** The kinds on a sheet, two bits a cell, so that a sheet is kept without an array. */
        final long[] marks = new long[MOST_WALKERS];
        int glimpses = 0;
        final int[] glimpseWay = new int[MOST_GLIMPSES];
        final int[] glimpseKind = new int[MOST_GLIMPSES];
        final int[] terms = new int[TERMS];
        final Text[] laws = new Text[MOST_LAWS];
        int lawCount = 0;
        int force = NONE;

        Land() {
            terms[SMEARS] = 1;
        }

        void copyFrom(Land other) {
            System.arraycopy(other.kind, 0, kind, 0, CELLS);
            System.arraycopy(other.height, 0, height, 0, CELLS);
            walkers = other.walkers;
            System.arraycopy(other.cell, 0, cell, 0, MOST_WALKERS);
            System.arraycopy(other.pace, 0, pace, 0, MOST_WALKERS);
            System.arraycopy(other.wants, 0, wants, 0, MOST_WALKERS);
            System.arraycopy(other.mapped, 0, mapped, 0, MOST_WALKERS);
            System.arraycopy(other.marks, 0, marks, 0, MOST_WALKERS);
            glimpses = other.glimpses;
            System.arraycopy(other.glimpseWay, 0, glimpseWay, 0, MOST_GLIMPSES);
            System.arraycopy(other.glimpseKind, 0, glimpseKind, 0, MOST_GLIMPSES);
            System.arraycopy(other.terms, 0, terms, 0, TERMS);
            for (int law = 0; law < MOST_LAWS; law++) {
                laws[law] = other.laws[law];
            }
            lawCount = other.lawCount;
            force = other.force;
        }

        void lay(int where, int what, int howHigh) {
            kind[where] = what;
            height[where] = howHigh;
        }

        boolean hasWalker(int walker) {
            return walker >= 0 && walker < walkers;
        }

        boolean hasLaw(int law) {
            return law >= 0 && law < lawCount;
        }

        /** Null without such a law: it is asked as one without clauses. */
        Text lawNumbered(int law) {
            return hasLaw(law) ? laws[law] : null;
        }

        Text lawInForce() {
            return lawNumbered(force);
        }

        void addWalker(int where, int howFast) {
            cell[walkers] = where;
            pace[walkers] = howFast;
            wants[walkers] = 0;
            mapped[walkers] = 0;
            marks[walkers] = 0L;
            walkers++;
        }

        int whoIsIn(int where) {
            int bits = 0;
            for (int walker = 0; walker < walkers; walker++) {
                if (cell[walker] == where) {
                    bits |= 1 << walker;
                }
            }
            return bits;
        }

        boolean knows(int walker, int where) {
            return (mapped[walker] >> where & 1) == 1;
        }

        int kindOnSheet(int walker, int where) {
            return knows(walker, where) ? (int) (marks[walker] >> 2 * where & 3L) : NONE;
        }

        void mark(int walker, int where, int what) {
            blank(walker, where);
            mapped[walker] |= 1 << where;
            marks[walker] |= (long) what << 2 * where;
        }

        void blank(int walker, int where) {
            mapped[walker] &= ~(1 << where);
            marks[walker] &= ~(3L << 2 * where);
        }

        void comeTo(int walker, int where, int far) {
            cell[walker] = where;
            int seen = cellsInSight(where, far);
            for (int c = 0; c < CELLS; c++) {
                if ((seen >> c & 1) == 1) {
                    mark(walker, c, kind[c]);
                }
            }
        }

        int joinSheets(int one, int other) {
            int toOne = mapped[other] & ~mapped[one];
            int toOther = mapped[one] & ~mapped[other];
            for (int c = 0; c < CELLS; c++) {
                if ((toOne >> c & 1) == 1) {
                    mark(one, c, kindOnSheet(other, c));
                } else if ((toOther >> c & 1) == 1) {
                    mark(other, c, kindOnSheet(one, c));
                }
            }
            return Integer.bitCount(toOne) + Integer.bitCount(toOther);
        }

        boolean wouldGain(int walker, int from) {
            return (wants[walker] & ~mapped[walker] & mapped[from]) != 0;
        }

        int mappedBy(int who) {
            int bits = 0;
            for (int walker = 0; walker < walkers; walker++) {
                if ((who >> walker & 1) == 1) {
                    bits |= mapped[walker];
                }
            }
            return bits;
        }

        int cellsOfAllSheets() {
            int cells = 0;
            for (int walker = 0; walker < walkers; walker++) {
                cells += Integer.bitCount(mapped[walker]);
            }
            return cells;
        }

        int kindByWay(int where, int way) {
            int there = neighbour(where, way);
            return there == NONE ? BEYOND : kind[there];
        }

        int yardCells() {
            int bits = ALL_CELLS;
            for (int c = 0; c < CELLS; c++) {
                for (int g = 0; g < glimpses; g++) {
                    if (kindByWay(c, glimpseWay[g]) != glimpseKind[g]) {
                        bits &= ~(1 << c);
                    }
                }
            }
            return bits;
        }

        void tellOrderWords(long[] words) {
            words[MINUTE_SLOT] = terms[MINUTE];
            for (int walker = 0; walker < MOST_WALKERS; walker++) {
                boolean there = walker < walkers;
                words[AT_SLOT + walker] = there ? cell[walker] : NONE;
                words[MAPPED_SLOT + walker] = there ? Integer.bitCount(mapped[walker]) : NONE;
            }
            for (int c = 0; c < CELLS; c++) {
                words[KIND_SLOT + c] = kind[c];
            }
        }
    }

    /** What can be undone: a ring that lets go of its oldest. */
    private static final class Deeds {
        final int[] what = new int[MOST_DEEDS];
        final int[] one = new int[MOST_DEEDS];
        final int[] oneCell = new int[MOST_DEEDS];
        final int[] oneMapped = new int[MOST_DEEDS];
        final long[] oneMarks = new long[MOST_DEEDS];
        final int[] other = new int[MOST_DEEDS];
        final int[] otherMapped = new int[MOST_DEEDS];
        final long[] otherMarks = new long[MOST_DEEDS];
        int next = 0;
        int size = 0;

        void clear() {
            size = 0;
        }

        void copyFrom(Deeds from) {
            System.arraycopy(from.what, 0, what, 0, MOST_DEEDS);
            System.arraycopy(from.one, 0, one, 0, MOST_DEEDS);
            System.arraycopy(from.oneCell, 0, oneCell, 0, MOST_DEEDS);
            System.arraycopy(from.oneMapped, 0, oneMapped, 0, MOST_DEEDS);
            System.arraycopy(from.oneMarks, 0, oneMarks, 0, MOST_DEEDS);
            System.arraycopy(from.other, 0, other, 0, MOST_DEEDS);
            System.arraycopy(from.otherMapped, 0, otherMapped, 0, MOST_DEEDS);
            System.arraycopy(from.otherMarks, 0, otherMarks, 0, MOST_DEEDS);
            next = from.next;
            size = from.size;
        }

        /** To be called ahead of the deed; walkers that it does not touch are NONE. */
        void add(Land land, int deed, int first, int second) {
            what[next] = deed;
            one[next] = first;
            other[next] = second;
            if (land.hasWalker(first)) {
                oneCell[next] = land.cell[first];
                oneMapped[next] = land.mapped[first];
                oneMarks[next] = land.marks[first];
            }
            if (land.hasWalker(second)) {
                otherMapped[next] = land.mapped[second];
                otherMarks[next] = land.marks[second];
            }
            next = (next + 1) % MOST_DEEDS;
            size = Math.min(size + 1, MOST_DEEDS);
        }

        int takeBack(Land land) {
            next = (next + MOST_DEEDS - 1) % MOST_DEEDS;
            size--;
            if (what[next] == PASSED) {
                land.terms[MINUTE]--;
            }
            if (land.hasWalker(one[next])) {
                land.cell[one[next]] = oneCell[next];
                land.mapped[one[next]] = oneMapped[next];
                land.marks[one[next]] = oneMarks[next];
            }
            if (land.hasWalker(other[next])) {
                land.mapped[other[next]] = otherMapped[next];
                land.marks[other[next]] = otherMarks[next];
            }
            return what[next];
        }
    }

    /** A text as it was read: its clauses, and their sums and tests in a code for a stack. */
    private static final class Text {
        final int[] code;
        final int[] what;
        final int[] first;
        final int[] second;
        final int[] test;
        final int[] times;
        int size = 0;
        int clauses = 0;

        Text() {
            code = new int[MOST_CODE];
            what = new int[MOST_CLAUSES];
            first = new int[MOST_CLAUSES];
            second = new int[MOST_CLAUSES];
            test = new int[MOST_CLAUSES];
            times = new int[MOST_CLAUSES];
        }

        Text(Text draft) {
            size = draft.size;
            clauses = draft.clauses;
            code = Arrays.copyOf(draft.code, size);
            what = Arrays.copyOf(draft.what, clauses);
            first = Arrays.copyOf(draft.first, clauses);
            second = Arrays.copyOf(draft.second, clauses);
            test = Arrays.copyOf(draft.test, clauses);
            times = Arrays.copyOf(draft.times, clauses);
        }
    }

    /** The tape, and how a text on it is read. */
    private static final class Reader {
        final int[] tape = new int[MOST_TAPE];
        int length = 0;
        int fault = NONE;
        final Text draft = new Text();
        private final int[] tokenPlace = new int[MOST_TAPE + 1];
        private final int[] tokenCode = new int[MOST_TAPE + 1];
        private final int[] tokenValue = new int[MOST_TAPE + 1];
        private int at = 0;
        private int token = TEXT_END;
        private int value = 0;
        private int parts = 0;
        private boolean ofOrders = false;

        void addFour(int number) {
            for (int shift = 24; shift >= 0 && length < MOST_TAPE; shift -= 8) {
                tape[length] = number >> shift & 255;
                length++;
            }
        }

        /** The tape into the draft; it is empty then, whether it could be read or not. */
        boolean reads(boolean orders) {
            ofOrders = orders;
            parts = 0;
            fault = NONE;
            draft.size = 0;
            draft.clauses = 0;
            findTokens();
            length = 0;
            goTo(0);
            for (int clause = 0; clause < MOST_CLAUSES; clause++) {
                if (!(orders ? readsOrder(clause) : readsLaw(clause))) {
                    return false;
                }
                draft.clauses = clause + 1;
                if (token == TEXT_END) {
                    return true;
                }
                if (token != ';') {
                    return fails();
                }
                goTo(at + 1);
            }
            return fails();
        }

        private void findTokens() {
            int tokens = 0;
            int from = 0;
            while (from < length) {
                int to = from + 1;
                int sign = tape[from];
                if (isLetter(sign)) {
                    while (to < length && isLetter(tape[to])) {
                        to++;
                    }
                    putToken(tokens++, from, wordCode(from, to), 0);
                } else if (isDigit(sign)) {
                    while (to < length && isDigit(tape[to])) {
                        to++;
                    }
                    putToken(tokens++, from, NUMBER, numberValue(from, to));
                } else if (sign != ' ') {
                    putToken(tokens++, from, sign, 0);
                }
                from = to;
            }
            putToken(tokens, length, TEXT_END, 0);
        }

        private void putToken(int number, int place, int code, int value) {
            tokenPlace[number] = place;
            tokenCode[number] = code;
            tokenValue[number] = value;
        }

        private int wordCode(int from, int to) {
            int code = FIRST_WORD;
            int wordFrom = 0;
            for (int i = 0; i < WORDS.length(); i++) {
                if (WORDS.charAt(i) == ' ') {
                    if (i - wordFrom == to - from && stands(from, to, wordFrom)) {
                        return code;
                    }
                    code++;
                    wordFrom = i + 1;
                }
            }
            return UNKNOWN_WORD;
        }

        private boolean stands(int from, int to, int wordFrom) {
            for (int i = 0; i < to - from; i++) {
                if (WORDS.charAt(wordFrom + i) != tape[from + i]) {
                    return false;
                }
            }
            return true;
        }

        /** Beyond MOST_NUMBER it only matters that it is. */
        private int numberValue(int from, int to) {
            int value = 0;
            for (int i = from; i < to && value <= MOST_NUMBER; i++) {
                value = 10 * value + (tape[i] - '0');
            }
            return value;
        }

        private static boolean isLetter(int sign) {
            return sign >= 'a' && sign <= 'z';
        }

        private static boolean isDigit(int sign) {
            return sign >= '0' && sign <= '9';
        }

        /** The last token is the end, and nothing goes on behind it. */
        private void goTo(int number) {
            if (number >= 0 && number <= MOST_TAPE) {
                at = number;
                token = tokenCode[number];
                value = tokenValue[number];
            }
        }

        private boolean fails() {
            fault = tokenPlace[at];
            return false;
        }

        private void startClause(int clause) {
            draft.what[clause] = token;
            draft.first[clause] = NONE;
            draft.second[clause] = NONE;
            draft.test[clause] = NONE;
            draft.times[clause] = 1;
            goTo(at + 1);
        }

        private boolean readsLaw(int clause) {
            if (token != COSTS && token != SEES && token != BARS) {
                return fails();
            }
            startClause(clause);
            if (draft.what[clause] != BARS) {
                draft.first[clause] = draft.size;
                if (!readsSum(0)) {
                    return false;
                }
                emit(OP_END, 0);
            }
            if (token != IF) {
                return true;
            }
            goTo(at + 1);
            draft.test[clause] = draft.size;
            if (!readsTest(0)) {
                return false;
            }
            emit(OP_END, 0);
            return true;
        }

        private boolean readsOrder(int clause) {
            if (token != STEP && token != JOIN && token != SMEAR && token != PASS) {
                return fails();
            }
            startClause(clause);
            int between = wordBetween(draft.what[clause]);
            if (between != NONE) {
                draft.first[clause] = draft.size;
                if (!readsSum(0)) {
                    return false;
                }
                emit(OP_END, 0);
                if (token != between) {
                    return fails();
                }
                goTo(at + 1);
                draft.second[clause] = draft.size;
                if (!readsSum(0)) {
                    return false;
                }
                emit(OP_END, 0);
            }
            if (token == TIMES) {
                goTo(at + 1);
                if (token != NUMBER || value < 1 || value > MOST_TIMES) {
                    return fails();
                }
                draft.times[clause] = value;
                goTo(at + 1);
            }
            if (token != IF) {
                return true;
            }
            goTo(at + 1);
            draft.test[clause] = draft.size;
            if (!readsTest(0)) {
                return false;
            }
            emit(OP_END, 0);
            return true;
        }

        private static int wordBetween(int what) {
            switch (what) {
                case STEP:
                    return TO;
                case JOIN:
                    return WITH;
                case SMEAR:
                    return OF;
                default:
                    return NONE;
            }
        }

        /** Each "and", "or" skips only what stands right behind it: the next one skips in its turn. */
        private boolean readsTest(int depth) {
            int orAt = NONE;
            int andAt = NONE;
            for (int n = 0; n <= MOST_TAPE; n++) {
                if (!readsPlain(depth)) {
                    return false;
                }
                skipToHere(andAt);
                andAt = NONE;
                if (token == AND) {
                    andAt = emit(OP_AND, 0);
                } else {
                    skipToHere(orAt);
                    if (token != OR) {
                        return true;
                    }
                    orAt = emit(OP_OR, 0);
                }
                goTo(at + 1);
            }
            return fails();
        }

        private boolean readsPlain(int depth) {
            int op = NONE;
            boolean turned = false;
            for (int n = 0; n <= MOST_TAPE && token == NOT; n++) {
                turned = !turned;
                goTo(at + 1);
            }
            if (token == '(') {
                if (depth >= MOST_BRACKETS) {
                    return fails();
                }
                goTo(at + 1);
                if (!readsTest(depth + 1)) {
                    return false;
                }
                if (token != ')') {
                    return fails();
                }
                goTo(at + 1);
            } else {
                if (!readsSum(depth)) {
                    return false;
                }
                op = comparingOp(token);
                if (op == NONE) {
                    return fails();
                }
                goTo(at + 1);
                if (!readsSum(depth)) {
                    return false;
                }
            }
            emitIfAny(op);
            emitIfAny(turned ? OP_NOT : NONE);
            return true;
        }

        private boolean readsSum(int depth) {
            int adding = NONE;
            int timing = NONE;
            for (int n = 0; n <= MOST_TAPE; n++) {
                if (!readsPart(depth)) {
                    return false;
                }
                emitIfAny(timing);
                timing = timingOp(token);
                if (timing == NONE) {
                    emitIfAny(adding);
                    adding = addingOp(token);
                    if (adding == NONE) {
                        return true;
                    }
                }
                goTo(at + 1);
            }
            return fails();
        }

        private boolean readsPart(int depth) {
            if (token == '[') {
                if (depth >= MOST_BRACKETS) {
                    return fails();
                }
                goTo(at + 1);
                if (!readsSum(depth + 1)) {
                    return false;
                }
                if (token != ']') {
                    return fails();
                }
                goTo(at + 1);
                return true;
            }
            if (parts >= MOST_PARTS) {
                return fails();
            }
            parts++;
            if (token == NUMBER) {
                if (value > MOST_NUMBER) {
                    return fails();
                }
                emit(OP_NUMBER, value);
                goTo(at + 1);
                return true;
            }
            int slot = ofOrders ? orderSlot(token) : lawSlot(token);
            if (slot == NONE) {
                return fails();
            }
            int most = ofOrders ? mostBehind(token) : NONE;
            goTo(at + 1);
            if (most != NONE) {
                if (token != NUMBER || value > most) {
                    return fails();
                }
                slot += value;
                goTo(at + 1);
            }
            emit(OP_WORD, slot);
            return true;
        }

        private static int lawSlot(int word) {
            return word >= WALKER && word <= MOOD_WORD ? word - WALKER : NONE;
        }

        /** The highest number that an order's word takes behind it, NONE if it takes none. */
        private static int mostBehind(int word) {
            switch (word) {
                case AT:
                case MAPPED:
                    return MOST_WALKERS - 1;
                case KIND:
                    return CELLS - 1;
                default:
                    return NONE;
            }
        }

        private static int orderSlot(int word) {
            switch (word) {
                case MINUTE_WORD:
                    return MINUTE_SLOT;
                case DONE:
                    return DONE_SLOT;
                case LATEST:
                    return LATEST_SLOT;
                case AT:
                    return AT_SLOT;
                case MAPPED:
                    return MAPPED_SLOT;
                case KIND:
                    return KIND_SLOT;
                default:
                    return NONE;
            }
        }

        private static int comparingOp(int sign) {
            switch (sign) {
                case '<':
                    return OP_LESS;
                case '>':
                    return OP_MORE;
                case '=':
                    return OP_SAME;
                default:
                    return NONE;
            }
        }

        private static int timingOp(int sign) {
            switch (sign) {
                case '*':
                    return OP_MULTIPLY;
                case '/':
                    return OP_DIVIDE;
                case '%':
                    return OP_REST;
                default:
                    return NONE;
            }
        }

        private static int addingOp(int sign) {
            switch (sign) {
                case '+':
                    return OP_ADD;
                case '-':
                    return OP_SUBTRACT;
                default:
                    return NONE;
            }
        }

        private void emitIfAny(int op) {
            if (op != NONE) {
                emit(op, 0);
            }
        }

        /** Where it was put; MOST_CODE is above what a tape can make. */
        private int emit(int op, int value) {
            if (draft.size >= MOST_CODE) {
                return NONE;
            }
            draft.code[draft.size] = value << OP_BITS | op;
            draft.size++;
            return draft.size - 1;
        }

        private void skipToHere(int from) {
            if (from >= 0 && from < MOST_CODE) {
                draft.code[from] = draft.size << OP_BITS | draft.code[from] & OP_MASK;
            }
        }
    }

    /** What a law tells of a walker and a step, and what sums and tests are worth. */
    private static final class Rules {
        private final long[] lawWords = new long[LAW_SLOTS];
        private final long[] stack = new long[MOST_STACK];

        int cost(Land land, Text law, int walker, int from, int to) {
            if (law == null) {
                return WITHOUT_LAW;
            }
            tellLawWords(land, walker, from, to);
            return lastTold(law, COSTS, LEAST_COST, MOST_COST);
        }

        int sight(Land land, Text law, int walker, int cell) {
            if (law == null) {
                return WITHOUT_LAW;
            }
            tellLawWords(land, walker, cell, cell);
            return lastTold(law, SEES, LEAST_SIGHT, MOST_SIGHT);
        }

        boolean bars(Land land, Text law, int walker, int from, int to) {
            if (law == null) {
                return false;
            }
            tellLawWords(land, walker, from, to);
            for (int clause = 0; clause < law.clauses; clause++) {
                if (law.what[clause] == BARS && worth(law, law.test[clause], lawWords) == 1L) {
                    return true;
                }
            }
            return false;
        }

        /** In the order of the words in WORDS. */
        private void tellLawWords(Land land, int walker, int from, int to) {
            lawWords[0] = walker;
            lawWords[1] = land.kind[to];
            lawWords[2] = land.height[to];
            lawWords[3] = land.height[to] - land.height[from];
            lawWords[4] = land.knows(walker, to) ? 1 : 0;
            lawWords[5] = land.pace[walker];
            lawWords[6] = land.terms[MINUTE];
            lawWords[7] = land.terms[MOOD];
        }

        private int lastTold(Text law, int what, int least, int most) {
            for (int clause = law.clauses - 1; clause >= 0; clause--) {
                if (law.what[clause] == what && worth(law, law.test[clause], lawWords) == 1L) {
                    long told = worth(law, law.first[clause], lawWords);
                    if (told != BROKEN) {
                        return (int) Math.max(least, Math.min(most, told));
                    }
                }
            }
            return WITHOUT_LAW;
        }

        /** BROKEN, if it is; a test is worth 1 or 0. One that does not stand there (NONE) hinders nothing. */
        long worth(Text text, int start, long[] words) {
            if (start == NONE) {
                return 1L;
            }
            int top = 0;
            for (int at = start; at >= 0 && at < text.size; at++) {
                int op = text.code[at] & OP_MASK;
                int value = text.code[at] >> OP_BITS;
                if (op == OP_END) {
                    return top == 1 ? stack[0] : BROKEN;
                }
                if (op == OP_NUMBER || op == OP_WORD) {
                    if (top >= MOST_STACK || (op == OP_WORD && value >= words.length)) {
                        return BROKEN;
                    }
                    stack[top] = op == OP_NUMBER ? value : words[value];
                    top++;
                } else if (op == OP_NOT || op == OP_AND || op == OP_OR) {
                    if (top < 1) {
                        return BROKEN;
                    }
                    long so = stack[top - 1];
                    if (op == OP_NOT) {
                        stack[top - 1] = 1L - so;
                    } else if (so == (op == OP_OR ? 1L : 0L)) {
                        at = Math.max(at, value - 1);
                    } else {
                        top--;
                    }
                } else {
                    if (top < 2) {
                        return BROKEN;
                    }
                    top--;
                    stack[top - 1] = combined(op, stack[top - 1], stack[top]);
                    if (stack[top - 1] == BROKEN) {
                        return BROKEN;
                    }
                }
            }
            return BROKEN;
        }

        private static long combined(int op, long left, long right) {
            long value;
            switch (op) {
                case OP_ADD:
                    value = left + right;
                    break;
                case OP_SUBTRACT:
                    value = left - right;
                    break;
                case OP_MULTIPLY:
                    value = left * right;
                    break;
                case OP_DIVIDE:
                    value = right == 0L ? BROKEN : left / right;
                    break;
                case OP_REST:
                    value = right == 0L ? BROKEN : left % right;
                    break;
                case OP_LESS:
                    value = left < right ? 1L : 0L;
                    break;
                case OP_MORE:
                    value = left > right ? 1L : 0L;
                    break;
                default:
                    value = left == right ? 1L : 0L;
                    break;
            }
            return value > MOST_SUM || value < -MOST_SUM ? BROKEN : value;
        }
    }

    /** Cheapest walks. Counted backwards from the goal, so that the first row is found by going on. */
    private static final class Walks {
        /** By four times the cell and the way less 1; 0 where there is no such step. */
        private final int[] price = new int[CELLS * MOST_WAY];
        private final int[] counts = new int[CELLS];
        private final int[] keptCounts = new int[CELLS];
        /** Which of the wanted that are not yet on the sheet one sees from a cell, as bits. */
        private final int[] wantedSeen = new int[CELLS];
        /** By 25 times the set of the wanted that came up, and the cell. */
        private final int[] tourCounts = new int[CELLS << MOST_WANTS];

        void priceSteps(Rules rules, Land land, Text law, int walker, int over) {
            for (int from = 0; from < CELLS; from++) {
                for (int way = 1; way <= MOST_WAY; way++) {
                    int to = neighbour(from, way);
                    boolean can = to != NONE && (over >> to & 1) == 1
                        && !rules.bars(land, law, walker, from, to);
                    price[from * MOST_WAY + way - 1] = can ? rules.cost(land, law, walker, from, to) : 0;
                }
            }
        }

        private int priceOf(int from, int way) {
            return price[from * MOST_WAY + way - 1];
        }

        void countTo(int goal) {
            countAll(goal, true);
        }

        void countFrom(int start) {
            countAll(start, false);
        }

        /** What it costs from each cell to the one, if backwards, else from the one to each cell. */
        private void countAll(int one, boolean backwards) {
            Arrays.fill(counts, FAR);
            counts[one] = 0;
            boolean changed = true;
            for (int sweep = 0; sweep < CELLS && changed; sweep++) {
                changed = false;
                for (int from = 0; from < CELLS; from++) {
                    for (int way = 1; way <= MOST_WAY; way++) {
                        int to = neighbour(from, way);
                        if (to != NONE && priceOf(from, way) > 0) {
                            int near = backwards ? to : from;
                            int distant = backwards ? from : to;
                            int count = counts[near] + priceOf(from, way);
                            changed |= count < counts[distant];
                            counts[distant] = Math.min(counts[distant], count);
                        }
                    }
                }
            }
        }

        void keepCounts() {
            System.arraycopy(counts, 0, keptCounts, 0, CELLS);
        }

        int greaterCount(int cell) {
            return Math.max(counts[cell], keptCounts[cell]);
        }

        int soonestMeeting() {
            int best = NONE;
            int least = FAR;
            for (int cell = 0; cell < CELLS; cell++) {
                if (greaterCount(cell) < least) {
                    least = greaterCount(cell);
                    best = cell;
                }
            }
            return best;
        }

        int countedCells() {
            int bits = 0;
            for (int cell = 0; cell < CELLS; cell++) {
                if (counts[cell] < FAR) {
                    bits |= 1 << cell;
                }
            }
            return bits;
        }

        /** Behind countTo(): the whole cost for NONE, else the i-th cell of the first row. */
        int wayTold(int start, int i) {
            if (counts[start] >= FAR) {
                return NONE;
            }
            if (i == NONE) {
                return counts[start];
            }
            int cell = start;
            for (int n = 0; n < CELLS && cell != NONE && counts[cell] > 0; n++) {
                cell = nextOfWay(cell);
                if (n == i) {
                    return cell;
                }
            }
            return NONE;
        }

        private int nextOfWay(int cell) {
            for (int way : WAYS_LOWEST_FIRST) {
                int to = neighbour(cell, way);
                int cost = priceOf(cell, way);
                if (cost > 0 && to != NONE && counts[to] + cost == counts[cell]) {
                    return to;
                }
            }
            return NONE;
        }

        /** The set of all that is wanted and not yet on the sheet, numbered from 0. */
        int seeWanted(Rules rules, Land land, Text law, int walker) {
            int missing = land.wants[walker] & ~land.mapped[walker];
            for (int from = 0; from < CELLS; from++) {
                int seen = cellsInSight(from, rules.sight(land, law, walker, from));
                wantedSeen[from] = pickedOut(seen, missing);
            }
            return pickedOut(missing, missing);
        }

        private static int pickedOut(int cells, int among) {
            int bits = 0;
            int number = 0;
            for (int cell = 0; cell < CELLS; cell++) {
                if ((among >> cell & 1) == 1) {
                    bits |= (cells >> cell & 1) << number;
                    number++;
                }
            }
            return bits;
        }

        /** A step never lessens the set, so the greater sets are counted first. */
        void countTours(int all) {
            Arrays.fill(tourCounts, FAR);
            for (int cell = 0; cell < CELLS; cell++) {
                tourCounts[all * CELLS + cell] = 0;
            }
            for (int set = all - 1; set >= 0; set--) {
                boolean changed = true;
                for (int sweep = 0; sweep < CELLS && changed; sweep++) {
                    changed = sweepTours(set);
                }
            }
        }

        private boolean sweepTours(int set) {
            boolean changed = false;
            for (int from = 0; from < CELLS; from++) {
                for (int way = 1; way <= MOST_WAY; way++) {
                    int count = tourCountBy(set, from, way);
                    if (count < tourCounts[set * CELLS + from]) {
                        tourCounts[set * CELLS + from] = count;
                        changed = true;
                    }
                }
            }
            return changed;
        }

        private int tourCountBy(int set, int from, int way) {
            int to = neighbour(from, way);
            int cost = priceOf(from, way);
            if (cost == 0 || to == NONE) {
                return FAR;
            }
            return Math.min(FAR, cost + tourCounts[(set | wantedSeen[to]) * CELLS + to]);
        }

        int tourTold(int start, int all, int i) {
            int whole = tourCounts[start];
            if (whole >= FAR) {
                return NONE;
            }
            if (i == NONE) {
                return whole;
            }
            int cell = start;
            int set = 0;
            for (int n = 0; n < tourCounts.length && cell != NONE && set != all; n++) {
                cell = nextOfTour(set, cell);
                if (n == i) {
                    return cell;
                }
                if (cell != NONE) {
                    set |= wantedSeen[cell];
                }
            }
            return NONE;
        }

        private int nextOfTour(int set, int cell) {
            for (int way : WAYS_LOWEST_FIRST) {
                int count = tourCountBy(set, cell, way);
                if (count < FAR && count == tourCounts[set * CELLS + cell]) {
                    return neighbour(cell, way);
                }
            }
            return NONE;
        }
    }
}
