import java.math.BigInteger;
import java.util.ArrayList;
import java.util.Arrays;
import java.util.Comparator;
import java.util.HashSet;
import java.util.List;
import java.util.PriorityQueue;
import java.util.Set;
import java.util.function.Function;

/**
 * The document once more, in the slowest and plainest way and with the whole
 * library, to be held against FootMaps by ModelTest: sheets are arrays, texts
 * are trees of functions, walks are found by rows of cells in a queue.
 */
final class Model {
    static final int NONE = -1;

    /** A sum or a test that is broken. */
    private static final class Broken extends RuntimeException {
        private static final long serialVersionUID = 1L;
    }

    /** A text that can't be. */
    private static final class Fault extends RuntimeException {
        private static final long serialVersionUID = 1L;
        final int place;

        Fault(int place) {
            this.place = place;
        }
    }

    private interface Sum {
        BigInteger of(Function<String, Integer> words);
    }

    private interface Test {
        boolean of(Function<String, Integer> words);
    }

    private static final class Clause {
        String what;
        Sum first;
        Sum second;
        int times = 1;
        Test test;
    }

    private static final class Walker {
        int cell;
        int pace;
        int wants;
        Integer[] sheet = new Integer[25];

        Walker copy() {
            Walker w = new Walker();
            w.cell = cell;
            w.pace = pace;
            w.wants = wants;
            w.sheet = sheet.clone();
            return w;
        }

        int bits() {
            int b = 0;
            for (int c = 0; c < 25; c++) {
                if (sheet[c] != null) {
                    b |= 1 << c;
                }
            }
            return b;
        }
    }

    private static final class World {
        int[] kind = new int[25];
        int[] height = new int[25];
        List<Walker> walkers = new ArrayList<>();
        List<int[]> glimpsed = new ArrayList<>();
        int[] terms = {0, 1, 0};
        List<List<Clause>> laws = new ArrayList<>();
        int force = NONE;

        World copy() {
            World w = new World();
            w.kind = kind.clone();
            w.height = height.clone();
            for (Walker x : walkers) {
                w.walkers.add(x.copy());
            }
            w.glimpsed = new ArrayList<>(glimpsed);
            w.terms = terms.clone();
            w.laws = new ArrayList<>(laws);
            w.force = force;
            return w;
        }

        List<Clause> inForce() {
            return force == NONE ? List.of() : laws.get(force);
        }
    }

    /** What a deed can change, as it was ahead of it. */
    private record Deed(int what, int[] cells, Integer[][] sheets, int minute) { }

    private World now = new World();
    private final World[] images = new World[2];
    private List<Deed> deeds = new ArrayList<>();
    private World paper = new World();
    private final List<Integer> tape = new ArrayList<>();
    private int fault = NONE;
    private int stopped = NONE;
    private int blots = 0;
    private int status = 0;
    private final int[] refused = new int[7];

    private int ok(int answer) {
        status = 0;
        return answer;
    }

    private int no(int by) {
        status = by;
        refused[-by]++;
        return by;
    }

    private static int go(int cell, int way) {
        int x = cell % 5 + (way == 2 ? 1 : way == 4 ? -1 : 0);
        int y = cell / 5 + (way == 1 ? 1 : way == 3 ? -1 : 0);
        return x < 0 || y < 0 || x > 4 || y > 4 ? NONE : 5 * y + x;
    }

    private boolean isWalker(int w) {
        return w >= 0 && w < now.walkers.size();
    }

    private static boolean isCell(int c) {
        return c >= 0 && c <= 24;
    }

    // ---- laws

    private static Function<String, Integer> lawWords(World l, int w, int from, int to) {
        Walker x = l.walkers.get(w);
        return word -> switch (word) {
            case "walker" -> w;
            case "kind" -> l.kind[to];
            case "height" -> l.height[to];
            case "rise" -> l.height[to] - l.height[from];
            case "known" -> x.sheet[to] == null ? 0 : 1;
            case "pace" -> x.pace;
            case "minute" -> l.terms[0];
            case "mood" -> l.terms[2];
            default -> throw new IllegalStateException(word);
        };
    }

    private static BigInteger told(List<Clause> law, String what, Function<String, Integer> words) {
        BigInteger answer = null;
        for (Clause c : law) {
            if (!c.what.equals(what)) {
                continue;
            }
            try {
                if (c.test == null || c.test.of(words)) {
                    answer = c.first == null ? BigInteger.ONE : c.first.of(words);
                }
            } catch (Broken e) {
                continue;
            }
        }
        return answer;
    }

    private static int within(BigInteger v, int least, int most) {
        return v == null ? 1 : v.max(BigInteger.valueOf(least)).min(BigInteger.valueOf(most)).intValue();
    }

    private static int costs(World l, List<Clause> law, int w, int from, int to) {
        return within(told(law, "costs", lawWords(l, w, from, to)), 1, 9);
    }

    private static boolean barred(World l, List<Clause> law, int w, int from, int to) {
        return told(law, "bars", lawWords(l, w, from, to)) != null;
    }

    private static Set<Integer> sees(World l, List<Clause> law, int w, int cell) {
        int far = far(l, law, w, cell);
        Set<Integer> seen = new HashSet<>();
        for (int c = 0; c < 25; c++) {
            if (Math.abs(c % 5 - cell % 5) + Math.abs(c / 5 - cell / 5) <= far) {
                seen.add(c);
            }
        }
        return seen;
    }

    private static int far(World l, List<Clause> law, int w, int cell) {
        return within(told(law, "sees", lawWords(l, w, cell, cell)), 0, 3);
    }

    // ---- the face

    public int cell(int cell, int kind, int height) {
        if (!isCell(cell) || kind < 0 || kind > 3 || height < 0 || height > 9) {
            return no(-1);
        }
        int was = now.kind[cell];
        now.kind[cell] = kind;
        now.height[cell] = height;
        return ok(was);
    }

    public int land(int cell, int what) {
        if (!isCell(cell)) {
            return NONE;
        }
        int who = 0;
        for (int w = 0; w < now.walkers.size(); w++) {
            if (now.walkers.get(w).cell == cell) {
                who += 1 << w;
            }
        }
        return what == 0 ? now.kind[cell] : what == 1 ? now.height[cell] : what == 2 ? who : NONE;
    }

    public int walker(int cell, int pace) {
        if (!isCell(cell) || pace < 1 || pace > 9) {
            return no(-1);
        }
        if (now.walkers.size() == 4) {
            return no(-5);
        }
        Walker w = new Walker();
        w.cell = cell;
        w.pace = pace;
        now.walkers.add(w);
        deeds.clear();
        return ok(now.walkers.size() - 1);
    }

    public int of(int walker, int what) {
        if (!isWalker(walker)) {
            return NONE;
        }
        Walker w = now.walkers.get(walker);
        return switch (what) {
            case 0 -> w.cell;
            case 1 -> w.pace;
            case 2 -> w.wants;
            case 3 -> Integer.bitCount(w.bits());
            case 4 -> w.bits();
            case 5 -> far(now, now.inForce(), walker, w.cell);
            default -> NONE;
        };
    }

    public int sheet(int walker, int cell) {
        if (!isWalker(walker) || !isCell(cell) || now.walkers.get(walker).sheet[cell] == null) {
            return NONE;
        }
        return now.walkers.get(walker).sheet[cell];
    }

    public int asks(int walker, int way, int what) {
        if (!isWalker(walker) || way < 1 || way > 4 || what < 0 || what > 1) {
            return NONE;
        }
        int from = now.walkers.get(walker).cell;
        int to = go(from, way);
        if (to == NONE) {
            return NONE;
        }
        return what == 0 ? costs(now, now.inForce(), walker, from, to)
            : barred(now, now.inForce(), walker, from, to) ? 1 : 0;
    }

    public int wants(int walker, int cells) {
        if (cells < 0 || cells >= 1 << 25 || Integer.bitCount(cells) > 6) {
            return no(-1);
        }
        if (!isWalker(walker)) {
            return no(-2);
        }
        int was = now.walkers.get(walker).wants;
        now.walkers.get(walker).wants = cells;
        return ok(was);
    }

    public int terms(int what, int value) {
        int most = what == 0 ? 999 : what == 1 ? 10 : what == 2 ? 9 : -1;
        if (value < 0 || value > most) {
            return no(-1);
        }
        int was = now.terms[what];
        now.terms[what] = value;
        deeds.clear();
        return ok(was);
    }

    public int feed(int a, int b, int c, int d, int e) {
        if (tape.size() > 380) {
            return NONE;
        }
        for (int n : new int[] {a, b, c, d, e}) {
            tape.add(n >>> 24);
            tape.add(n >>> 16 & 255);
            tape.add(n >>> 8 & 255);
            tape.add(n & 255);
        }
        return tape.size();
    }

    public int end(int n) {
        if (n < 0 || n > tape.size()) {
            return NONE;
        }
        tape.subList(n, tape.size()).clear();
        return n;
    }

    public int row() {
        if (tape.isEmpty()) {
            return no(-6);
        }
        int told = 0;
        blots = 0;
        while (!tape.isEmpty()) {
            if (tape.size() >= 3 && tape.get(0) < 25 && tape.get(1) < 4 && tape.get(2) < 10) {
                now.kind[tape.get(0)] = tape.get(1);
                now.height[tape.get(0)] = tape.get(2);
                told++;
            } else {
                blots++;
            }
            tape.subList(0, Math.min(3, tape.size())).clear();
        }
        return ok(told);
    }

    public int blots() {
        return blots;
    }

    public int law() {
        if (now.laws.size() == 6) {
            tape.clear();
            return no(-5);
        }
        List<Clause> law = read(false);
        if (law == null) {
            return no(-6);
        }
        now.laws.add(law);
        return ok(now.laws.size() - 1);
    }

    public int orders() {
        stopped = NONE;
        List<Clause> clauses = read(true);
        if (clauses == null) {
            return no(-6);
        }
        World was = now.copy();
        List<Deed> wereDeeds = new ArrayList<>(deeds);
        int[] done = {0, -1};
        for (int c = 0; c < clauses.size(); c++) {
            for (int t = 0; t < clauses.get(c).times; t++) {
                if (!run(clauses.get(c), done)) {
                    now = was;
                    deeds = wereDeeds;
                    stopped = c;
                    return no(-3);
                }
            }
        }
        return ok(done[0]);
    }

    private boolean run(Clause c, int[] done) {
        Function<String, Integer> words = word -> {
            String[] w = word.split(" ");
            int n = w.length > 1 ? Integer.parseInt(w[1]) : 0;
            return switch (w[0]) {
                case "minute" -> now.terms[0];
                case "done" -> done[0];
                case "latest" -> done[1];
                case "at" -> of(n, 0);
                case "mapped" -> of(n, 3);
                case "kind" -> now.kind[n];
                default -> throw new IllegalStateException(word);
            };
        };
        try {
            if (c.test != null && !c.test.of(words)) {
                return true;
            }
        } catch (Broken e) {
            return true;
        }
        int told;
        try {
            int a = c.first == null ? 0 : c.first.of(words).intValueExact();
            int b = c.second == null ? 0 : c.second.of(words).intValueExact();
            told = switch (c.what) {
                case "step" -> stepped(a, b);
                case "join" -> joined(a, b);
                case "smear" -> smeared(a, b);
                default -> passed();
            };
        } catch (Broken e) {
            return false;
        }
        if (told < 0) {
            return false;
        }
        done[0]++;
        if (c.what.equals("step")) {
            done[1] = told;
        }
        return true;
    }

    public int fault() {
        return fault;
    }

    public int stopped() {
        return stopped;
    }

    public int force(int law) {
        if (law < -1 || law >= now.laws.size()) {
            return no(-2);
        }
        int was = now.force;
        now.force = law;
        return ok(was);
    }

    private int told(int answer) {
        return answer < 0 ? no(answer) : ok(answer);
    }

    public int step(int walker, int way) {
        return told(stepped(walker, way));
    }

    public int join(int one, int other) {
        return told(joined(one, other));
    }

    public int smear(int cell, int walker) {
        return told(smeared(cell, walker));
    }

    public int pass() {
        return told(passed());
    }

    private void keep(int what) {
        int n = now.walkers.size();
        int[] cells = new int[n];
        Integer[][] sheets = new Integer[n][];
        for (int w = 0; w < n; w++) {
            cells[w] = now.walkers.get(w).cell;
            sheets[w] = now.walkers.get(w).sheet.clone();
        }
        deeds.add(new Deed(what, cells, sheets, now.terms[0]));
        if (deeds.size() > 16) {
            deeds.remove(0);
        }
    }

    private static int stepIn(World l, int walker, int way) {
        int from = l.walkers.get(walker).cell;
        int to = go(from, way);
        if (to == NONE || barred(l, l.inForce(), walker, from, to)) {
            return -3;
        }
        int cost = costs(l, l.inForce(), walker, from, to);
        Set<Integer> seen = sees(l, l.inForce(), walker, to);
        l.walkers.get(walker).cell = to;
        for (int c : seen) {
            l.walkers.get(walker).sheet[c] = l.kind[c];
        }
        return cost;
    }

    private static int joinIn(World l, int one, int other) {
        int came = 0;
        Integer[] a = l.walkers.get(one).sheet;
        Integer[] b = l.walkers.get(other).sheet;
        for (int c = 0; c < 25; c++) {
            if (a[c] == null && b[c] != null) {
                a[c] = b[c];
                came++;
            } else if (b[c] == null && a[c] != null) {
                b[c] = a[c];
                came++;
            }
        }
        return came;
    }

    private int stepped(int walker, int way) {
        if (way < 1 || way > 4) {
            return -1;
        }
        if (!isWalker(walker)) {
            return -2;
        }
        if (stepIn(now.copy(), walker, way) < 0) {
            return -3;
        }
        keep(0);
        return stepIn(now, walker, way);
    }

    private int joined(int one, int other) {
        if (one == other) {
            return -1;
        }
        if (!isWalker(one) || !isWalker(other)) {
            return -2;
        }
        if (now.walkers.get(one).cell != now.walkers.get(other).cell) {
            return -3;
        }
        keep(1);
        return joinIn(now, one, other);
    }

    private int smeared(int cell, int walker) {
        if (!isCell(cell)) {
            return -1;
        }
        if (!isWalker(walker)) {
            return -2;
        }
        if (now.walkers.get(walker).sheet[cell] == null) {
            return -3;
        }
        keep(2);
        now.walkers.get(walker).sheet[cell] = null;
        return of(walker, 3);
    }

    private int passed() {
        if (now.terms[0] == 999) {
            return -3;
        }
        keep(3);
        return ++now.terms[0];
    }

    public int undo() {
        if (deeds.isEmpty()) {
            return no(-3);
        }
        Deed d = deeds.remove(deeds.size() - 1);
        for (int w = 0; w < d.cells().length; w++) {
            now.walkers.get(w).cell = d.cells()[w];
            now.walkers.get(w).sheet = d.sheets()[w].clone();
        }
        now.terms[0] = d.minute();
        return ok(d.what());
    }

    // ---- walks

    private record Row(int cost, List<Integer> cells, int cell, Set<Integer> seen) { }

    private static final Comparator<Row> BY_COST_THEN_ROW = (a, b) -> {
        if (a.cost() != b.cost()) {
            return Integer.compare(a.cost(), b.cost());
        }
        for (int i = 0; i < Math.min(a.cells().size(), b.cells().size()); i++) {
            int c = Integer.compare(a.cells().get(i), b.cells().get(i));
            if (c != 0) {
                return c;
            }
        }
        return Integer.compare(a.cells().size(), b.cells().size());
    };

    /** The first row of least cost that ends in the goal, or by which all wanted was seen. */
    private Row walk(List<Clause> law, int walker, Integer goal, Set<Integer> wanted, boolean onSheet) {
        Walker w = now.walkers.get(walker);
        PriorityQueue<Row> queue = new PriorityQueue<>(BY_COST_THEN_ROW);
        queue.add(new Row(0, List.of(), w.cell, Set.of()));
        Set<List<Object>> been = new HashSet<>();
        while (!queue.isEmpty()) {
            Row r = queue.poll();
            if (goal != null ? r.cell() == goal : r.seen().containsAll(wanted)) {
                return r;
            }
            if (!been.add(List.of(r.cell(), r.seen()))) {
                continue;
            }
            for (int way = 1; way <= 4; way++) {
                int to = go(r.cell(), way);
                if (to == NONE || barred(now, law, walker, r.cell(), to) || onSheet && w.sheet[to] == null) {
                    continue;
                }
                List<Integer> cells = new ArrayList<>(r.cells());
                cells.add(to);
                Set<Integer> seen = new HashSet<>(r.seen());
                if (goal == null) {
                    seen.addAll(sees(now, law, walker, to));
                    seen.retainAll(wanted);
                }
                queue.add(new Row(r.cost() + costs(now, law, walker, r.cell(), to), cells, to, seen));
            }
        }
        return null;
    }

    private static int rowTold(Row r, int i) {
        if (r == null) {
            return NONE;
        }
        return i == NONE ? r.cost() : i >= 0 && i < r.cells().size() ? r.cells().get(i) : NONE;
    }

    public int way(int walker, int cell, int i) {
        return isWalker(walker) && isCell(cell)
            ? rowTold(walk(now.inForce(), walker, cell, null, false), i) : NONE;
    }

    public int sure(int walker, int cell, int i) {
        return isWalker(walker) && isCell(cell)
            ? rowTold(walk(now.inForce(), walker, cell, null, true), i) : NONE;
    }

    public int tour(int walker, int i) {
        if (!isWalker(walker)) {
            return NONE;
        }
        Walker w = now.walkers.get(walker);
        Set<Integer> wanted = new HashSet<>();
        for (int c = 0; c < 25; c++) {
            if ((w.wants >> c & 1) == 1 && w.sheet[c] == null) {
                wanted.add(c);
            }
        }
        return rowTold(walk(now.inForce(), walker, null, wanted, false), i);
    }

    public int meet(int one, int other, int what) {
        if (!isWalker(one) || !isWalker(other) || one == other) {
            return NONE;
        }
        int best = NONE;
        int least = Integer.MAX_VALUE;
        for (int c = 0; c < 25; c++) {
            int a = way(one, c, NONE);
            int b = way(other, c, NONE);
            if (a != NONE && b != NONE && Math.max(a, b) < least) {
                least = Math.max(a, b);
                best = c;
            }
        }
        return best == NONE ? NONE : what == 0 ? best : what == 1 ? least : NONE;
    }

    public int stale(int walker) {
        if (!isWalker(walker)) {
            return NONE;
        }
        int bits = 0;
        for (int c = 0; c < 25; c++) {
            Integer k = now.walkers.get(walker).sheet[c];
            if (k != null && k != now.kind[c]) {
                bits += 1 << c;
            }
        }
        return bits;
    }

    public int both(int i) {
        List<Integer> twos = new ArrayList<>();
        for (int a = 0; a < now.walkers.size(); a++) {
            for (int b = a + 1; b < now.walkers.size(); b++) {
                Walker p = now.walkers.get(a);
                Walker q = now.walkers.get(b);
                boolean pGains = false;
                boolean qGains = false;
                for (int c = 0; c < 25; c++) {
                    pGains |= (p.wants >> c & 1) == 1 && p.sheet[c] == null && q.sheet[c] != null;
                    qGains |= (q.wants >> c & 1) == 1 && q.sheet[c] == null && p.sheet[c] != null;
                }
                if (pGains && qGains) {
                    twos.add(10 * a + b);
                }
            }
        }
        return i == NONE ? twos.size() : i >= 0 && i < twos.size() ? twos.get(i) : NONE;
    }

    public int glimpse(int way, int kind) {
        if (way < 0 || way > 4 || kind < 0 || kind > 4) {
            return no(-1);
        }
        if (now.glimpsed.size() == 6) {
            return no(-5);
        }
        now.glimpsed.add(new int[] {way, kind});
        return ok(now.glimpsed.size());
    }

    public int forget() {
        int n = now.glimpsed.size();
        now.glimpsed.clear();
        return n;
    }

    private int seenBy(int cell, int way) {
        int to = go(cell, way);
        return to == NONE ? 4 : now.kind[to];
    }

    public int yard() {
        int bits = 0;
        for (int c = 0; c < 25; c++) {
            int at = c;
            if (now.glimpsed.stream().allMatch(g -> seenBy(at, g[0]) == g[1])) {
                bits += 1 << c;
            }
        }
        return bits;
    }

    public int look(int what) {
        int yard = yard();
        if (yard == 0 || what < 0 || what > 1) {
            return NONE;
        }
        int[] worst = new int[5];
        for (int way = 0; way < 5; way++) {
            for (int k = 0; k < 5; k++) {
                int n = 0;
                for (int c = 0; c < 25; c++) {
                    n += (yard >> c & 1) == 1 && seenBy(c, way) == k ? 1 : 0;
                }
                worst[way] = Math.max(worst[way], n);
            }
        }
        int least = Arrays.stream(worst).min().getAsInt();
        for (int way = 0; way < 5; way++) {
            if (worst[way] == least) {
                return what == 0 ? way : least;
            }
        }
        return NONE;
    }

    public int reach(int walker) {
        if (!isWalker(walker)) {
            return NONE;
        }
        int bits = 0;
        for (int c = 0; c < 25; c++) {
            bits += way(walker, c, NONE) == NONE ? 0 : 1 << c;
        }
        return bits;
    }

    public int cover(int what) {
        int all = 0;
        for (Walker w : now.walkers) {
            all |= w.bits();
        }
        for (int size = 0; size <= 4; size++) {
            for (int who = 0; who < 1 << now.walkers.size(); who++) {
                int have = 0;
                for (int w = 0; w < now.walkers.size(); w++) {
                    have |= (who >> w & 1) == 1 ? now.walkers.get(w).bits() : 0;
                }
                if (Integer.bitCount(who) == size && have == all) {
                    return what == 0 ? size : what == 1 ? who : NONE;
                }
            }
        }
        return NONE;
    }

    public long few(int k, int n) {
        if (k < 1 || k > 20 || n < 0 || n > 99) {
            return NONE;
        }
        BigInteger[] odds = new BigInteger[n + 2];
        Arrays.fill(odds, BigInteger.ZERO);
        odds[0] = BigInteger.TEN.pow(12);
        BigInteger s = BigInteger.valueOf(now.terms[1]);
        for (int pace = 0; pace < n; pace++) {
            BigInteger[] next = odds.clone();
            for (int j = 0; j <= n; j++) {
                BigInteger not = odds[j].multiply(BigInteger.TEN.subtract(s)).divide(BigInteger.TEN);
                next[j] = j == 0 ? not : not.add(odds[j - 1].multiply(s).divide(BigInteger.TEN));
            }
            odds = next;
        }
        BigInteger sum = BigInteger.ZERO;
        for (int j = 0; j < k && j <= n; j++) {
            sum = sum.add(odds[j]);
        }
        return sum.longValueExact();
    }

    public int compare(int law, int walker, int cell) {
        if (law < -1 || law >= now.laws.size() || !isWalker(walker) || !isCell(cell)) {
            return NONE;
        }
        List<Clause> by = law == NONE ? List.of() : now.laws.get(law);
        return rowTold(walk(by, walker, cell, null, false), NONE);
    }

    public int days(int seed, int n) {
        if (seed < 0 || seed > 1000000 || n < 1 || n > 60) {
            return no(-1);
        }
        if (now.walkers.isEmpty()) {
            return no(-3);
        }
        paper = now.copy();
        long s = seed;
        int costs = 0;
        for (int t = 0; t < n; t++) {
            if (paper.terms[0] == 999) {
                break;
            }
            s = (s * 1103 + 12345) % 1000003;
            int w = (int) (s % paper.walkers.size());
            s = (s * 1103 + 12345) % 1000003;
            costs += Math.max(0, stepIn(paper, w, (int) (s % 4) + 1));
            for (int o = 0; o < paper.walkers.size(); o++) {
                if (o != w && paper.walkers.get(o).cell == paper.walkers.get(w).cell) {
                    joinIn(paper, w, o);
                    break;
                }
            }
            paper.terms[0]++;
        }
        return ok(costs);
    }

    public int drawn(int walker, int what) {
        if (walker < 0 || walker >= paper.walkers.size() || what < 0 || what > 1) {
            return NONE;
        }
        return what == 0 ? paper.walkers.get(walker).cell : paper.walkers.get(walker).bits();
    }

    public int image(int k) {
        if (k != 0 && k != 1) {
            return no(-1);
        }
        images[k] = now.copy();
        return ok(0);
    }

    public int back(int k) {
        if (k != 0 && k != 1) {
            return no(-1);
        }
        if (images[k] == null) {
            return no(-2);
        }
        now = images[k].copy();
        deeds.clear();
        return ok(0);
    }

    public int count(int what) {
        return switch (what) {
            case 0 -> now.walkers.size();
            case 1 -> now.walkers.stream().mapToInt(w -> Integer.bitCount(w.bits())).sum();
            case 2 -> now.glimpsed.size();
            case 3 -> now.laws.size();
            case 4 -> deeds.size();
            case 5 -> tape.size();
            case 6 -> refused[1];
            case 7 -> refused[2];
            case 8 -> refused[3];
            case 9 -> refused[5];
            case 10 -> refused[6];
            case 11 -> now.force;
            case 12, 13, 14 -> now.terms[what - 12];
            default -> NONE;
        };
    }

    public int status() {
        return status;
    }

    // ---- texts

    private String text = "";
    private int at;
    private boolean ofOrders;
    private int parts;

    private List<Clause> read(boolean orders) {
        StringBuilder b = new StringBuilder();
        for (int t : tape) {
            b.append((char) t);
        }
        tape.clear();
        text = b.toString();
        at = 0;
        parts = 0;
        ofOrders = orders;
        fault = NONE;
        try {
            return clauses();
        } catch (Fault f) {
            fault = f.place;
            return null;
        }
    }

    /** The token that comes, "" at the end; at stands on it then. */
    private String peek() {
        while (at < text.length() && text.charAt(at) == ' ') {
            at++;
        }
        if (at == text.length()) {
            return "";
        }
        for (String row : new String[] {"[a-z]+", "[0-9]+"}) {
            java.util.regex.Matcher m = java.util.regex.Pattern.compile(row).matcher(text);
            m.region(at, text.length());
            if (m.lookingAt()) {
                return m.group();
            }
        }
        return text.substring(at, at + 1);
    }

    private String take(String... which) {
        String token = peek();
        if (token.isEmpty() || which.length > 0 && !Arrays.asList(which).contains(token)) {
            throw new Fault(at);
        }
        at += token.length();
        return token;
    }

    private boolean comes(String... which) {
        return Arrays.asList(which).contains(peek());
    }

    private int number(int least, int most) {
        String token = peek();
        if (!token.matches("[0-9]+")) {
            throw new Fault(at);
        }
        BigInteger v = new BigInteger(token);
        if (v.compareTo(BigInteger.valueOf(least)) < 0 || v.compareTo(BigInteger.valueOf(most)) > 0) {
            throw new Fault(at);
        }
        take();
        return v.intValue();
    }

    private List<Clause> clauses() {
        List<Clause> all = new ArrayList<>();
        do {
            if (!all.isEmpty()) {
                take(";");
            }
            peek();
            if (all.size() == 12) {
                throw new Fault(at);
            }
            all.add(ofOrders ? order() : lawClause());
        } while (comes(";"));
        if (!peek().isEmpty()) {
            throw new Fault(at);
        }
        return all;
    }

    private Clause lawClause() {
        Clause c = new Clause();
        c.what = take("costs", "sees", "bars");
        if (!c.what.equals("bars")) {
            c.first = sum(0);
        }
        ifTest(c);
        return c;
    }

    private Clause order() {
        Clause c = new Clause();
        c.what = take("step", "join", "smear", "pass");
        if (!c.what.equals("pass")) {
            c.first = sum(0);
            take(c.what.equals("step") ? "to" : c.what.equals("join") ? "with" : "of");
            c.second = sum(0);
        }
        if (comes("times")) {
            take();
            c.times = number(1, 20);
        }
        ifTest(c);
        return c;
    }

    private void ifTest(Clause c) {
        if (comes("if")) {
            take();
            c.test = test(0);
        }
    }

    private Test test(int deep) {
        Test left = bothTest(deep);
        while (comes("or")) {
            take();
            Test a = left;
            Test b = bothTest(deep);
            left = words -> a.of(words) || b.of(words);
        }
        return left;
    }

    private Test bothTest(int deep) {
        Test left = plain(deep);
        while (comes("and")) {
            take();
            Test a = left;
            Test b = plain(deep);
            left = words -> a.of(words) && b.of(words);
        }
        return left;
    }

    private Test plain(int deep) {
        if (comes("not")) {
            take();
            Test a = plain(deep);
            return words -> !a.of(words);
        }
        if (comes("(")) {
            if (deep == 8) {
                throw new Fault(at);
            }
            take();
            Test a = test(deep + 1);
            take(")");
            return a;
        }
        Sum a = sum(deep);
        String sign = take("<", ">", "=");
        Sum b = sum(deep);
        return words -> {
            int c = a.of(words).compareTo(b.of(words));
            return sign.equals("<") ? c < 0 : sign.equals(">") ? c > 0 : c == 0;
        };
    }

    private static BigInteger kept(BigInteger v) {
        if (v.abs().compareTo(BigInteger.valueOf(1000000000)) > 0) {
            throw new Broken();
        }
        return v;
    }

    private Sum sum(int deep) {
        Sum left = term(deep);
        while (comes("+", "-")) {
            boolean plus = take().equals("+");
            Sum a = left;
            Sum b = term(deep);
            left = words -> {
                BigInteger x = a.of(words);
                BigInteger y = b.of(words);
                return kept(plus ? x.add(y) : x.subtract(y));
            };
        }
        return left;
    }

    private Sum term(int deep) {
        Sum left = part(deep);
        while (comes("*", "/", "%")) {
            String sign = take();
            Sum a = left;
            Sum b = part(deep);
            left = words -> {
                BigInteger x = a.of(words);
                BigInteger y = b.of(words);
                if (sign.equals("*")) {
                    return kept(x.multiply(y));
                }
                if (y.signum() == 0) {
                    throw new Broken();
                }
                return kept(sign.equals("/") ? x.divide(y) : x.remainder(y));
            };
        }
        return left;
    }

    private static final List<String> LAW_WORDS =
        List.of("walker", "kind", "height", "rise", "known", "pace", "minute", "mood");

    private Sum part(int deep) {
        if (comes("[")) {
            if (deep == 8) {
                throw new Fault(at);
            }
            take();
            Sum a = sum(deep + 1);
            take("]");
            return a;
        }
        peek();
        if (parts == 50) {
            throw new Fault(at);
        }
        parts++;
        if (peek().matches("[0-9]+")) {
            BigInteger v = BigInteger.valueOf(number(0, 1000));
            return words -> v;
        }
        if (!ofOrders) {
            String word = take(LAW_WORDS.toArray(new String[0]));
            return words -> BigInteger.valueOf(words.apply(word));
        }
        String word = take("minute", "done", "latest", "at", "mapped", "kind");
        String whole = word.equals("kind") ? word + " " + number(0, 24)
            : word.equals("at") || word.equals("mapped") ? word + " " + number(0, 3) : word;
        return words -> BigInteger.valueOf(words.apply(whole));
    }
}
