import java.util.Arrays;

/** Boundary cases of days and images (term IV) and of the promises 38 to 43. */
public final class DaysEdgesTest {
    public static void main(String[] args) {
        seeds();
        draws();
        onPaper();
        lastMinute();
        stepsByDraws();
        joinsByDraws();
        minutesByDraws();
        imagesKeep();
        imagesDoNotKeep();
        imagesStay();
        daysCall();
        drawnCall();
        imageCall();
        backCall();
        countCall();
        statusCall();
        Edges.end();
    }

    private static long next(long s) {
        return (s * 1103 + 12345) % 1000003;
    }

    /** The least seed by which the first walker that is drawn, and the way, are these. */
    private static int seedFor(int walkers, int walker, int way) {
        for (int seed = 0; seed <= 1000000; seed++) {
            long first = next(seed);
            if (first % walkers == walker && next(first) % 4 + 1 == way) {
                return seed;
            }
        }
        throw new IllegalStateException("no seed");
    }

    private static void seeds() {
        Edges.says("IV", "DAYS with a SEED, n 1 .. 60, on paper: s is the SEED (0 .. 1,000,000)");
        FootMaps x = Edges.with(12);
        for (int n : new int[] {0, 61, -1, Edges.LEAST, Edges.MOST}) {
            Edges.due("days(0, " + n + ")", x.days(0, n), -1);
        }
        for (int seed : new int[] {-1, 1000001, 1000003, Edges.LEAST, Edges.MOST}) {
            Edges.due("days(" + seed + ", 1)", x.days(seed, 1), -1);
        }
        Edges.due("there are no days yet", x.drawn(0, 0), -1);
        for (int seed : new int[] {0, 1, 999999, 1000000}) {
            for (int n : new int[] {1, 2, 59, 60}) {
                int[] where = {12};
                int cost = walked(seed, n, where);
                Edges.due("days(" + seed + ", " + n + ")", x.days(seed, n), cost);
                Edges.due("where it is behind days(" + seed + ", " + n + ")", x.drawn(0, 0), where[0]);
            }
        }
    }

    /** Where walkers come to without a law, and how many steps they make. */
    private static int walked(int seed, int n, int[] where) {
        long s = seed;
        int steps = 0;
        for (int time = 0; time < n; time++) {
            s = next(s);
            int walker = (int) (s % where.length);
            s = next(s);
            int way = (int) (s % 4) + 1;
            int x = where[walker] % 5 + (way == 2 ? 1 : way == 4 ? -1 : 0);
            int y = where[walker] / 5 + (way == 1 ? 1 : way == 3 ? -1 : 0);
            if (x >= 0 && x < 5 && y >= 0 && y < 5) {
                where[walker] = 5 * y + x;
                steps++;
            }
        }
        return steps;
    }

    private static void draws() {
        Edges.says("IV", "a DRAW of m: s becomes (s times 1103 and 12345) modulo 1,000,003, it is s modulo m.");
        FootMaps one = Edges.with(12);
        Edges.due("days(0, 1)", one.days(0, 1), 1);
        Edges.due("12345, then 628841, by 4: to the right", one.drawn(0, 0), 13);
        for (int walkers = 1; walkers <= 4; walkers++) {
            int[] where = new int[walkers];
            Arrays.fill(where, 12);
            for (int seed : new int[] {0, 7, 12345, 895, 500000, 987654, 999998, 1000000}) {
                FootMaps x = Edges.with(where);
                int[] then = where.clone();
                Edges.due("days(" + seed + ", 60) of " + walkers, x.days(seed, 60), walked(seed, 60, then));
                for (int walker = 0; walker < walkers; walker++) {
                    Edges.due("where " + walker + " is", x.drawn(walker, 0), then[walker]);
                }
            }
        }
        Edges.says("IV", "DRAWS of WALKERS, of 4: that WALKER STEPS the WAY that is 1 more, if it can");
        for (int walker = 0; walker < 4; walker++) {
            for (int way = 1; way <= 4; way++) {
                FootMaps x = Edges.with(12, 12, 12, 12);
                Edges.due("days", x.days(seedFor(4, walker, way), 1), 1);
                for (int other = 0; other < 4; other++) {
                    int to = other == walker ? new int[] {0, 17, 13, 7, 11}[way] : 12;
                    Edges.due("where " + other + " is when " + walker + " goes by " + way, x.drawn(other, 0), to);
                }
            }
        }
    }

    private static void onPaper() {
        Edges.says("IV", "on paper");
        FootMaps x = Edges.under("costs 3;sees 2", 11, 13);
        x.step(0, 2);
        x.wants(0, 9);
        x.glimpse(0, 0);
        int cost = x.days(3, 1);
        String ahead = Edges.state(x);
        Edges.due("days(3, 1) once more", x.days(3, 1), cost);
        Edges.same("nothing is changed", Edges.state(x), ahead);
        int cell = x.of(0, 0);
        int sheet = x.of(0, 4);
        x.days(17, 60);
        Edges.due("where it is", x.of(0, 0), cell);
        Edges.due("its sheet", x.of(0, 4), sheet);
        Edges.due("the minute", x.count(12), 0);
        Edges.due("what can be undone", x.count(4), 1);
        int first = x.drawn(0, 0);
        x.step(0, 1);
        x.cell(7, 3, 0);
        Edges.due("the latest days stay", x.drawn(0, 0), first);
    }

    private static void lastMinute() {
        Edges.says("IV", "Each time (at MINUTE 999 it ends)");
        FootMaps x = Edges.with(12, 12);
        x.terms(0, 999);
        Edges.due("at 999", x.days(0, 60), 0);
        Edges.due("it is accepted", x.status(), 0);
        Edges.due("where the first is", x.drawn(0, 0), 12);
        Edges.due("where the second is", x.drawn(1, 0), 12);
        for (int left = 1; left <= 3; left++) {
            x.terms(0, 999 - left);
            int[] where = {12, 12};
            Edges.due("at " + (999 - left), x.days(5, 60), walked(5, left, where));
            Edges.due("where the first is", x.drawn(0, 0), where[0]);
            Edges.due("where the second is", x.drawn(1, 0), where[1]);
        }
        x.terms(0, 939);
        int[] where = {12, 12};
        Edges.due("just to 999", x.days(5, 60), walked(5, 60, where));
        Edges.due("where the first is", x.drawn(0, 0), where[0]);
    }

    private static void stepsByDraws() {
        Edges.says("IV", "that WALKER STEPS the WAY that is 1 more, if it can");
        FootMaps corner = Edges.with(0);
        Edges.due("beyond the edge", corner.days(seedFor(1, 0, 3), 1), 0);
        Edges.due("it stays", corner.drawn(0, 0), 0);
        Edges.due("it sees nothing", corner.drawn(0, 1), 0);
        FootMaps barred = Edges.under("bars", 12);
        Edges.due("barred", barred.days(0, 60), 0);
        Edges.due("it stays", barred.drawn(0, 0), 12);
        FootMaps known = Edges.under("costs 2+known*5;sees 0", 12);
        int seed = 0;
        while (next(next(seed)) % 4 + 1 != 1 || next(next(next(next(seed)))) % 4 + 1 != 3) {
            seed++;
        }
        Edges.due("up, and down to where it was", known.days(seed, 2), 4);
        Edges.due("where it is", known.drawn(0, 0), 12);
        Edges.due("what it saw", known.drawn(0, 1), Edges.bits(12, 17));
        known.step(0, 1);
        known.step(0, 3);
        Edges.due("over what is known", known.days(seed, 2), 14);
        FootMaps edge = Edges.with(0);
        int[] where = {0};
        Edges.due("sixty draws in a corner", edge.days(1, 60), walked(1, 60, where));
        Edges.due("where it is", edge.drawn(0, 0), where[0]);
    }

    private static void joinsByDraws() {
        Edges.says("IV", "then it JOINS the lowest other WALKER that is in its CELL, if there is one");
        for (int walker = 0; walker < 3; walker++) {
            FootMaps x = Edges.under("sees 0", 11, 11, 11);
            for (int each = 0; each < 3; each++) {
                x.step(each, each == 1 ? 1 : each == 2 ? 3 : 2);
                x.step(each, each == 1 ? 3 : each == 2 ? 1 : 4);
                x.smear(11, each);
            }
            Edges.law(x, "bars");
            x.force(1);
            int[] sheets = {x.of(0, 4), x.of(1, 4), x.of(2, 4)};
            Edges.due("days", x.days(seedFor(3, walker, 1), 1), 0);
            int lowest = walker == 0 ? 1 : 0;
            for (int each = 0; each < 3; each++) {
                boolean joined = each == walker || each == lowest;
                int sheet = joined ? sheets[walker] | sheets[lowest] : sheets[each];
                Edges.due("the sheet of " + each + " when " + walker + " is drawn", x.drawn(each, 1), sheet);
                Edges.due("its own sheet", x.of(each, 4), sheets[each]);
            }
        }
        FootMaps apart = Edges.with(0, 24);
        apart.days(seedFor(2, 0, 2), 1);
        Edges.due("nobody is there", apart.drawn(0, 1), Edges.bits(0, 1, 2, 6));
        Edges.due("nobody came", apart.drawn(1, 1), 0);
        FootMaps come = Edges.with(0, 1);
        come.days(seedFor(2, 0, 2), 1);
        Edges.due("it joins where it comes to", come.drawn(1, 1), Edges.bits(0, 1, 2, 6));
        FootMaps left = Edges.with(0, 0);
        left.days(seedFor(2, 0, 2), 1);
        Edges.due("it does not join where it was", left.drawn(1, 1), 0);
    }

    private static void minutesByDraws() {
        Edges.says("IV", "then the MINUTE passes.");
        FootMaps x = Edges.under("costs minute;bars if minute%2=1", 12);
        int seed = 0;
        while (next(next(seed)) % 4 + 1 != 1 || next(next(next(next(next(next(seed)))))) % 4 + 1 != 1) {
            seed++;
        }
        x.terms(0, 6);
        Edges.due("at 6 and at 8, barred at 7", x.days(seed, 3), 14);
        Edges.due("where it is", x.drawn(0, 0), 22);
        Edges.due("the minute is as it was", x.count(12), 6);
        x.terms(0, 5);
        Edges.due("barred at 5", x.days(seed, 1), 0);
    }

    /** With all that an image keeps unlike that of a new object. */
    private static FootMaps rich() {
        FootMaps x = Edges.under("costs 4", 11, 24);
        x.cell(11, 2, 7);
        x.cell(24, 3, 9);
        x.wants(1, 1 << 24);
        x.glimpse(4, 4);
        x.step(0, 2);
        x.smear(7, 0);
        x.terms(0, 40);
        x.terms(1, 7);
        x.terms(2, 9);
        return x;
    }

    private static void imagesKeep() {
        Edges.says("IV", "IMAGES 0, 1 keep all but");
        for (int k = 0; k < 2; k++) {
            FootMaps x = rich();
            x.image(k);
            String ahead = Edges.state(x);
            x.cell(11, 1, 1);
            x.cell(24, 0, 0);
            x.walker(3, 3);
            x.walker(4, 4);
            x.wants(0, 3);
            x.wants(1, 0);
            x.terms(0, 999);
            x.terms(1, 0);
            x.terms(2, 0);
            x.glimpse(0, 0);
            Edges.law(x, "costs 9");
            x.force(1);
            x.step(0, 4);
            x.step(1, 3);
            x.back(k);
            Edges.same("all is as it was", Edges.state(x), ahead);
            Edges.due("its law", x.asks(0, 1, 0), 4);
            Edges.due("walkers", x.count(0), 2);
            Edges.due("laws", x.count(3), 1);
            Edges.due("no law 1", x.force(1), -2);
            Edges.due("no walker 2", x.step(2, 1), -2);
            Edges.due("its pace", x.of(0, 1), 1);
            Edges.due("its sheet", x.of(0, 4), Edges.bits(11, 12, 13, 17));
            Edges.due("a kind on it", x.sheet(0, 11), 2);
            Edges.due("glimpsed", x.count(2), 1);
            Edges.due("the yard", x.yard(), Edges.bits(0, 5, 10, 15, 20));
            Edges.due("smears", x.count(13), 7);
        }
        FootMaps other = new FootMaps();
        other.image(1);
        other.walker(7, 5);
        other.wants(0, 3);
        other.glimpse(4, 4);
        other.glimpse(3, 4);
        other.image(0);
        other.back(1);
        other.walker(8, 8);
        other.wants(0, 5);
        other.glimpse(2, 4);
        other.glimpse(1, 3);
        other.back(0);
        Edges.due("the cell of the walker who was there then", other.of(0, 0), 7);
        Edges.due("its pace", other.of(0, 1), 5);
        Edges.due("its wants", other.of(0, 2), 3);
        Edges.due("what was glimpsed then", other.yard(), 1);
        FootMaps laws = Edges.with(12);
        laws.image(1);
        Edges.law(laws, "costs 5");
        laws.force(0);
        laws.image(0);
        laws.back(1);
        Edges.due("no law is in force", laws.count(11), -1);
        Edges.law(laws, "costs 8");
        laws.force(0);
        Edges.due("by another law 0", laws.asks(0, 1, 0), 8);
        laws.back(0);
        Edges.due("by the law 0 that was kept", laws.asks(0, 1, 0), 5);
        laws.back(1);
        for (int law = 0; law < 6; law++) {
            Edges.due("there is room for six laws", Edges.law(laws, "bars"), law);
        }
        laws.back(0);
        Edges.due("and for five more", Edges.law(laws, "bars"), 1);
    }

    private static void imagesDoNotKeep() {
        Edges.says("IV", "the TAPE, FAULT, BLOTS, where ORDERS stopped, what can be undone (nothing, behind back()), the latest DAYS");
        FootMaps x = Edges.with(12);
        x.pass();
        x.image(0);
        Edges.due("an image leaves what can be undone", x.count(4), 1);
        Edges.tape(x, 25, 0, 0);
        x.row();
        Edges.orders(x, "pass;step 0 to 0");
        Edges.law(x, "bars  x");
        x.days(0, 1);
        Edges.tape(x, "bars");
        x.step(0, 1);
        x.back(0);
        Edges.due("bytes", x.count(5), 4);
        Edges.due("fault", x.fault(), 6);
        Edges.due("blots", x.blots(), 1);
        Edges.due("stopped", x.stopped(), 1);
        Edges.due("where the walker was behind the latest days", x.drawn(0, 0), 13);
        Edges.due("nothing can be undone", x.count(4), 0);
        Edges.due("nothing can be undone", x.undo(), -3);
        Edges.due("the tape is a law", x.law(), 0);
        Edges.due("how often a text could not be read", x.count(10), 1);
        FootMaps y = new FootMaps();
        y.image(0);
        y.walker(12, 1);
        y.days(0, 1);
        y.back(0);
        Edges.due("the latest days, though the walker is no more", y.drawn(0, 0), 13);
    }

    private static void imagesStay() {
        Edges.says("IV", "BACK to one all that it keeps is as it was then (IMAGES stay).");
        FootMaps x = Edges.with(12);
        x.image(0);
        x.step(0, 2);
        x.image(1);
        x.step(0, 2);
        Edges.due("back(0)", x.back(0), 0);
        Edges.due("where it was", x.of(0, 0), 12);
        Edges.due("its sheet", x.of(0, 4), 0);
        x.step(0, 1);
        x.cell(0, 3, 3);
        Edges.due("back(0) once more", x.back(0), 0);
        Edges.due("where it was", x.of(0, 0), 12);
        Edges.due("its sheet", x.of(0, 4), 0);
        Edges.due("a cell", x.land(0, 0), 0);
        Edges.due("back(1)", x.back(1), 0);
        Edges.due("where it was", x.of(0, 0), 13);
        x.image(0);
        x.step(0, 2);
        x.back(0);
        Edges.due("an image that is kept again", x.of(0, 0), 13);
    }

    private static void daysCall() {
        Edges.says("38", "DAYS, kept as the latest: what all STEPS cost together.");
        FootMaps x = Edges.under("costs 9", 12);
        int[] where = {12};
        Edges.good("sixty", x, 9 * walked(1000000, 60, where), x.days(1000000, 60));
        Edges.due("where it is", x.drawn(0, 0), where[0]);
        Edges.good("one", x, 9, x.days(0, 1));
        Edges.due("where it is behind the latest", x.drawn(0, 0), 13);
        Edges.says("38", "-1; -3 there are no WALKERS.");
        for (int seed : new int[] {-1, 1000001, Edges.LEAST, Edges.MOST}) {
            Edges.refused("days(" + seed + ", 1)", x, -1, x.days(seed, 1));
        }
        for (int n : new int[] {0, 61, -1, Edges.LEAST, Edges.MOST}) {
            Edges.refused("days(0, " + n + ")", x, -1, x.days(0, n));
        }
        Edges.due("the latest are as they were", x.drawn(0, 0), 13);
        FootMaps y = new FootMaps();
        Edges.refused("no walkers", y, -3, y.days(0, 1));
        Edges.refused("no walkers, and no seed", y, -1, y.days(-1, 1));
        y.image(0);
        y.walker(12, 1);
        y.days(0, 1);
        y.back(0);
        Edges.refused("no walkers any more", y, -3, y.days(1, 1));
        Edges.due("the latest are as they were", y.drawn(0, 0), 13);
    }

    private static void drawnCall() {
        Edges.says("39", "Behind the latest DAYS the CELL of a WALKER (what 0), what its SHEET has, as bits (1).");
        FootMaps x = Edges.with(12, 0, 24, 4);
        x.days(seedFor(4, 3, 4), 1);
        Edges.due("the last walker's cell", x.drawn(3, 0), 3);
        Edges.due("the last walker's sheet", x.drawn(3, 1), Edges.bits(2, 3, 4, 8));
        Edges.due("another one's cell", x.drawn(2, 0), 24);
        Edges.due("another one's sheet", x.drawn(2, 1), 0);
        Edges.says("39", "NONE.");
        FootMaps y = Edges.with(12);
        Edges.due("ahead of any: the cell", y.drawn(0, 0), -1);
        Edges.due("ahead of any: the sheet", y.drawn(0, 1), -1);
        y.days(0, 1);
        y.walker(0, 1);
        Edges.due("one who was not there then", y.drawn(1, 0), -1);
        for (int walker : new int[] {1, 2, 3, 4, -1, Edges.LEAST, Edges.MOST}) {
            Edges.due("drawn(" + walker + ", 0)", y.drawn(walker, 0), -1);
            Edges.due("drawn(" + walker + ", 1)", y.drawn(walker, 1), -1);
        }
        for (int what : new int[] {2, -1, Edges.LEAST, Edges.MOST}) {
            Edges.due("drawn(0, " + what + ")", y.drawn(0, what), -1);
        }
    }

    private static void imageCall() {
        Edges.says("40", "IMAGE k is kept: 0; -1.");
        FootMaps x = new FootMaps();
        Edges.good("image(0)", x, 0, x.image(0));
        Edges.good("image(1)", x, 0, x.image(1));
        Edges.good("image(1) once more", x, 0, x.image(1));
        for (int k : new int[] {-1, 2, 3, Edges.LEAST, Edges.MOST}) {
            Edges.refused("image(" + k + ")", x, -1, x.image(k));
        }
        Edges.due("how often", x.count(6), 5);
    }

    private static void backCall() {
        Edges.says("41", "BACK to IMAGE k: 0.");
        FootMaps x = new FootMaps();
        x.image(1);
        x.walker(3, 3);
        Edges.good("back(1)", x, 0, x.back(1));
        Edges.due("walkers", x.count(0), 0);
        Edges.says("41", "-1; -2 it was not kept.");
        x.walker(3, 3);
        Edges.refused("back(0)", x, -2, x.back(0));
        for (int k : new int[] {-1, 2, Edges.LEAST, Edges.MOST}) {
            Edges.refused("back(" + k + ")", x, -1, x.back(k));
        }
        Edges.due("walkers", x.count(0), 1);
        x.pass();
        x.back(0);
        Edges.due("one that was refused leaves what can be undone", x.count(4), 1);
        FootMaps y = new FootMaps();
        Edges.refused("back(0)", y, -2, y.back(0));
        Edges.refused("back(1)", y, -2, y.back(1));
        y.image(0);
        Edges.good("back(0)", y, 0, y.back(0));
        Edges.refused("back(1)", y, -2, y.back(1));
    }

    private static void countCall() {
        Edges.says("42", "0 WALKERS, 1 CELLS of all SHEETS together, 2 GLIMPSED, 3 LAWS, 4 how many can be undone, 5 bytes of the TAPE");
        FootMaps x = Edges.under("sees 3", 11, 11, 11, 11);
        for (int walker = 0; walker < 4; walker++) {
            x.step(walker, 2);
        }
        for (int n = 0; n < 6; n++) {
            x.glimpse(0, 0);
            Edges.law(x, "bars");
        }
        Edges.orders(x, "pass times 20");
        for (int n = 0; n < 20; n++) {
            x.feed(0, 0, 0, 0, 0);
        }
        int[] most = {4, 84, 6, 6, 16, 400};
        for (int what = 0; what < 6; what++) {
            Edges.due("count(" + what + ")", x.count(what), most[what]);
        }
        Edges.says("42", "6 .. 10 how many calls were REFUSED by -1, -2, -3, -5, -6 (IMAGES do not keep that)");
        FootMaps y = Edges.with(12);
        y.image(0);
        refuseSome(y);
        for (int n = 0; n < 5; n++) {
            Edges.due("count(" + (6 + n) + ")", y.count(6 + n), n + 1);
        }
        y.back(0);
        for (int n = 0; n < 5; n++) {
            Edges.due("count(" + (6 + n) + ") behind back()", y.count(6 + n), n + 1);
        }
        y.few(0, 0);
        y.land(25, 0);
        y.end(-1);
        y.way(0, 25, -1);
        y.feed(0, 0, 0, 0, 0);
        Edges.due("NONE is no refusal", y.count(6), 1);
        Edges.says("42", "11 the LAW in FORCE, 12 .. 14 TERMS 0 .. 2.");
        FootMaps z = new FootMaps();
        int[] atFirst = {-1, 0, 1, 0};
        for (int n = 0; n < 4; n++) {
            Edges.due("count(" + (11 + n) + ") at first", z.count(11 + n), atFirst[n]);
        }
        for (int law = 0; law < 6; law++) {
            Edges.law(z, "bars");
        }
        z.force(5);
        z.terms(0, 999);
        z.terms(1, 10);
        z.terms(2, 9);
        int[] then = {5, 999, 10, 9};
        for (int n = 0; n < 4; n++) {
            Edges.due("count(" + (11 + n) + ")", z.count(11 + n), then[n]);
        }
        Edges.says("42", "NONE for others.");
        for (int what : new int[] {-1, 15, 16, Edges.LEAST, Edges.MOST}) {
            Edges.due("count(" + what + ")", z.count(what), -1);
        }
    }

    /** One by -1, two by -2, three by -3, four by -5, five by -6. */
    private static void refuseSome(FootMaps y) {
        y.cell(25, 0, 0);
        y.step(1, 1);
        y.force(0);
        y.undo();
        y.smear(0, 0);
        Edges.orders(y, "step 0 to 0");
        for (int n = 0; n < 6; n++) {
            y.glimpse(0, 0);
        }
        for (int n = 0; n < 4; n++) {
            y.glimpse(0, 0);
        }
        y.end(0);
        y.row();
        y.law();
        y.orders();
        Edges.law(y, "x");
        Edges.orders(y, "x");
    }

    private static void statusCall() {
        Edges.says("43", "What the latest call of cell, walker, wants, terms, row, law, orders, force, step, join, smear, pass, undo, glimpse, days, image, back was REFUSED by");
        FootMaps x = Edges.with(12, 12);
        Edges.refused("cell", x, -1, x.cell(25, 0, 0));
        Edges.refused("wants", x, -2, x.wants(2, 0));
        Edges.refused("walker", x, -1, x.walker(0, 0));
        Edges.refused("undo", x, -3, x.undo());
        Edges.refused("terms", x, -1, x.terms(0, 1000));
        Edges.refused("row", x, -6, x.row());
        Edges.refused("back", x, -2, x.back(0));
        Edges.refused("law", x, -6, x.law());
        Edges.refused("force", x, -2, x.force(0));
        Edges.refused("orders", x, -6, x.orders());
        Edges.refused("step", x, -1, x.step(0, 0));
        Edges.refused("smear", x, -3, x.smear(0, 0));
        Edges.refused("join", x, -1, x.join(0, 0));
        Edges.refused("orders that can't be", x, -3, Edges.orders(x, "step 0 to 0"));
        Edges.refused("days", x, -1, x.days(0, 0));
        x.terms(0, 999);
        Edges.refused("pass", x, -3, x.pass());
        Edges.refused("glimpse", x, -1, x.glimpse(5, 0));
        Edges.refused("image", x, -1, x.image(2));
        othersLeave(x, -1);
        Edges.says("43", "0 if it was not, or ahead of any.");
        FootMaps y = new FootMaps();
        Edges.due("ahead of any", y.status(), 0);
        othersLeave(y, 0);
        for (int call = 0; call < 17; call++) {
            FootMaps z = Edges.with(12, 12);
            z.image(0);
            z.pass();
            Edges.tape(z, call == 5 ? "bars" : call == 6 ? "pass" : "x");
            z.cell(25, 0, 0);
            Edges.due("status ahead of call " + call, z.status(), -1);
            int got = accepted(z, call);
            Edges.due("call " + call + " is accepted", Math.min(got, call == 7 ? -1 : 0), call == 7 ? -1 : 0);
            Edges.due("status behind call " + call, z.status(), 0);
        }
    }

    private static int accepted(FootMaps z, int call) {
        switch (call) {
            case 0: return z.cell(0, 0, 0);
            case 1: return z.walker(0, 1);
            case 2: return z.wants(0, 0);
            case 3: return z.terms(0, 0);
            case 4: return z.row();
            case 5: return z.law();
            case 6: return z.orders();
            case 7: return z.force(-1);
            case 8: return z.step(0, 1);
            case 9: return z.join(0, 1);
            case 10: z.step(0, 1); z.cell(25, 0, 0); return z.smear(12, 0);
            case 11: return z.pass();
            case 12: return z.undo();
            case 13: return z.glimpse(0, 0);
            case 14: return z.days(0, 1);
            case 15: return z.image(1);
            default: return z.back(0);
        }
    }

    /** All calls that the sentence does not name. */
    private static void othersLeave(FootMaps x, int status) {
        for (int good = 0; good < 2; good++) {
            int no = good == 1 ? 0 : 99;
            x.land(no, 0);
            x.of(no, 0);
            x.sheet(no, 0);
            x.asks(no, 1, 0);
            x.feed(0, 0, 0, 0, 0);
            x.end(good == 1 ? 0 : -1);
            x.blots();
            x.fault();
            x.stopped();
            x.way(no, 3, -1);
            x.sure(no, 3, -1);
            x.tour(no, -1);
            x.meet(no, 1, 0);
            x.stale(no);
            x.both(no);
            x.yard();
            x.look(no);
            x.forget();
            x.reach(no);
            x.cover(no);
            x.few(good == 1 ? 1 : 0, 0);
            x.compare(-1, no, 0);
            x.drawn(no, 0);
            x.count(no);
            Edges.due("behind calls that are not named", x.status(), status);
        }
    }
}
