import java.util.function.IntUnaryOperator;

/** Boundary cases of what is asked on paper (term III) and of the promises 24 to 37. */
public final class AskEdgesTest {
    private static final long WHOLE = 1000000000000L;
    private static final int[] NO_WALKERS_OF_TWO = {-1, 2, 3, 4, Edges.LEAST, Edges.MOST};
    private static final int[] NO_CELLS = {-1, 25, 32, Edges.LEAST, Edges.MOST};

    public static void main(String[] args) {
        onPaper();
        waysOnPaper();
        surely();
        tours();
        meetings();
        stale();
        twos();
        yards();
        looks();
        reached();
        covered();
        chances();
        compared();
        wayCall();
        sureCall();
        tourCall();
        meetCall();
        staleCall();
        bothCall();
        glimpseCall();
        forgetCall();
        yardCall();
        lookCall();
        reachCall();
        coverCall();
        fewCall();
        compareCall();
        Edges.end();
    }

    private static void kinds(FootMaps x, int kind, int... cells) {
        for (int cell : cells) {
            x.cell(cell, kind, 0);
        }
    }

    private static void way(String what, FootMaps x, int cell, int cost, int... cells) {
        Edges.due(what + " costs", x.way(0, cell, -1), cost);
        Edges.row(what, i -> x.way(0, cell, i), cells);
    }

    private static void sure(String what, FootMaps x, int cell, int cost, int... cells) {
        Edges.due(what + " costs", x.sure(0, cell, -1), cost);
        Edges.row(what, i -> x.sure(0, cell, i), cells);
    }

    private static void tour(String what, FootMaps x, int cost, int... cells) {
        Edges.due(what + " costs", x.tour(0, -1), cost);
        Edges.row(what, i -> x.tour(0, i), cells);
    }

    /** Walls by which the only way from 0 to 24 has sixteen steps. */
    private static FootMaps maze(String law, int... walkers) {
        FootMaps x = Edges.under("bars if kind=3;" + law, walkers);
        kinds(x, 3, 5, 6, 7, 8, 16, 17, 18, 19);
        return x;
    }

    private static void onPaper() {
        Edges.says("III", "(On paper, SHEETS and MINUTE as now in laws:)");
        FootMaps x = Edges.under("costs 1+known*8;sees 1+known*2", 12);
        x.step(0, 2);
        x.wants(0, Edges.bits(0));
        String ahead = Edges.state(x);
        way("over 12, which it knows, to 11, which it knows only when there", x, 11, 10, 12, 11);
        Edges.due("a tour by what it knows now", x.tour(0, -1), 9 + 3);
        Edges.due("reach(0)", x.reach(0), Edges.ALL);
        Edges.due("sure(0, 12, -1)", x.sure(0, 12, -1), 9);
        Edges.same("nothing is changed", Edges.state(x), ahead);
        FootMaps y = Edges.under("costs minute+1;bars if minute>4", 0, 4);
        y.terms(0, 4);
        Edges.due("the minute does not pass", y.way(0, 24, -1), 40);
        Edges.due("the minute does not pass", y.meet(0, 1, 1), 10);
        Edges.due("the minute is as it was", y.count(12), 4);
        y.pass();
        Edges.due("the minute as it is now", y.way(0, 24, -1), -1);
    }

    private static void waysOnPaper() {
        Edges.says("III", "a WAY to a CELL: STEPS that are not BARRED, for the least they cost together; the first as a row of CELLS (where it is: 0, no CELLS).");
        FootMaps x = Edges.with(12);
        way("where it is", x, 12, 0);
        way("to the first corner", x, 0, 4, 7, 2, 1, 0);
        way("to the last corner", x, 24, 4, 13, 14, 19, 24);
        way("to the right lower corner", x, 4, 4, 7, 2, 3, 4);
        way("to the left upper corner", x, 20, 4, 11, 10, 15, 20);
        FootMaps walls = maze("costs 9", 0);
        way("the longest one", walls, 24, 144, 1, 2, 3, 4, 9, 14, 13, 12, 11, 10, 15, 20, 21, 22, 23, 24);
        way("into a wall", walls, 5, -1);
        FootMaps dear = Edges.under("costs 3 if kind=1;costs 9 if kind=2", 12);
        dear.cell(13, 2, 0);
        way("around what is dear", dear, 14, 4, 7, 8, 9, 14);
        dear.cell(13, 1, 0);
        way("as cheap over 13, but later as a row", dear, 14, 4, 7, 8, 9, 14);
        kinds(dear, 2, 7);
        way("as cheap over 13, and earlier as a row", dear, 14, 4, 13, 14);
        dear.cell(11, 1, 0);
        way("the same to the left", dear, 10, 4, 11, 10);
        FootMaps barred = Edges.under("bars", 12);
        way("where it is, though barred", barred, 12, 0);
        way("beside it", barred, 13, -1);
        FootMaps hill = Edges.under("costs 1+rise", 0);
        hill.cell(1, 0, 9);
        way("what is higher costs on the way up", hill, 2, 4, 5, 6, 7, 2);
    }

    private static void surely() {
        Edges.says("III", "SURE: the same over CELLS on the SHEET alone (where it is aside).");
        FootMaps x = Edges.under("bars if kind=3;costs 5 if kind=1", 11);
        sure("where it is, though the sheet is blank", x, 11, 0);
        sure("beside it", x, 12, -1);
        x.step(0, 2);
        x.step(0, 2);
        sure("to 7, over what the sheet has", x, 7, 2, 8, 7);
        sure("to 11", x, 11, 2, 12, 11);
        sure("to 9, which it has not", x, 9, -1);
        x.smear(13, 0);
        sure("from where it is, though it is smeared", x, 14, 1, 14);
        sure("where it is, though it is smeared", x, 13, 0);
        x.smear(12, 0);
        sure("to 11, to which the sheet has no more a way", x, 11, -1);
        sure("to 7, to which it has", x, 7, 2, 8, 7);
        x.cell(8, 1, 0);
        sure("the costs are those of the land", x, 7, 6, 8, 7);
        x.cell(8, 3, 0);
        sure("the bars are those of the land", x, 7, -1);
    }

    private static void tours() {
        Edges.says("III", "A TOUR: STEPS for the least they cost by which all that is WANTED is on the SHEET (what is there already, and what it SEES from each CELL it comes to); the first as a row.");
        FootMaps x = Edges.with(12);
        tour("nothing is wanted", x, 0);
        x.wants(0, 1 << 12);
        tour("where it is, which it has not seen", x, 1, 7);
        x.wants(0, Edges.bits(12, 13));
        tour("both from where it comes to", x, 1, 13);
        x.step(0, 2);
        tour("both are there already", x, 0);
        x.cell(13, 3, 0);
        tour("both are there, though one is stale", x, 0);
        FootMaps blind = Edges.under("sees 0", 12);
        blind.wants(0, 1 << 12);
        tour("away and back", blind, 2, 7, 12);
        blind.wants(0, Edges.bits(0, 2, 4, 20, 22, 24));
        tour("six cells", blind, 16, 7, 2, 1, 0, 1, 2, 3, 4, 9, 14, 19, 24, 23, 22, 21, 20);
        FootMaps walls = maze("costs 9;sees 0", 12);
        walls.wants(0, Edges.bits(0, 24));
        tour("there, back and on", walls, 8 * 9 + 16 * 9, 11, 10, 15, 20, 21, 22, 23, 24, 23, 22, 21, 20, 15, 10, 11, 12, 13, 14, 9, 4, 3, 2, 1, 0);
        walls.wants(0, Edges.bits(0, 5));
        tour("into a wall", walls, -1);
        FootMaps over = maze("sees 2", 12);
        over.wants(0, Edges.bits(2, 22, 7, 17));
        tour("over the walls", over, 2, 11, 12);
        FootMaps tower = Edges.under("sees 0;sees 3 if height=9", 0);
        tower.cell(12, 0, 9);
        tower.wants(0, Edges.bits(2, 10, 14, 22, 21, 23));
        tour("from a tower", tower, 4, 1, 2, 7, 12);
        tower.cell(0, 0, 9);
        tower.wants(0, Edges.bits(3));
        tour("what it sees from where it is does not count ahead of a step", tower, 2, 1, 0);
    }

    private static void meetings() {
        Edges.says("III", "To MEET: the CELL for which the greater of both WAYS costs least; the lowest.");
        meet("at the two ends", Edges.with(0, 24), 4, 4);
        meet("in one cell", Edges.with(24, 24), 24, 0);
        meet("side by side", Edges.with(1, 0), 0, 1);
        meet("one behind the other", Edges.with(24, 19), 19, 1);
        meet("one is slow", Edges.under("costs 1+walker*8", 0, 4), 4, 4);
        meet("the other one is slow", Edges.under("costs 9-walker*8", 0, 4), 0, 4);
        meet("one is barred", Edges.under("bars if walker=0", 7, 24), 7, 5);
        FootMaps hill = Edges.under("costs 5 if rise>0", 0, 2);
        hill.cell(1, 0, 9);
        meet("not on the hill, from which it is near", hill, 6, 2);
        FootMaps none = Edges.under("bars", 6, 7);
        Edges.due("barred both, the cell", none.meet(0, 1, 0), -1);
        Edges.due("barred both, the cost", none.meet(0, 1, 1), -1);
        meet("barred both in one cell", Edges.under("bars", 6, 6), 6, 0);
        meet("through the maze", maze("costs 9", 0, 24), 12, 72);
    }

    private static void meet(String what, FootMaps x, int cell, int cost) {
        Edges.due(what + ": the cell", x.meet(0, 1, 0), cell);
        Edges.due(what + ": the cost", x.meet(0, 1, 1), cost);
        Edges.due(what + ": the cell, asked of the other one", x.meet(1, 0, 0), cell);
        Edges.due(what + ": the cost, asked of the other one", x.meet(1, 0, 1), cost);
    }

    private static void stale() {
        Edges.says("III", "STALE: CELLS of a SHEET the KIND of which is another one now.");
        FootMaps x = Edges.with(1, 23);
        Edges.due("of a blank sheet", x.stale(0), 0);
        x.step(0, 4);
        x.step(1, 2);
        Edges.due("all is as it was", x.stale(0), 0);
        kinds(x, 3, 0, 1, 2, 24);
        Edges.due("two of them, not the blank one", x.stale(0), Edges.bits(0, 1));
        Edges.due("the highest cell", x.stale(1), Edges.bits(24));
        x.cell(5, 0, 9);
        Edges.due("another height is nothing", x.stale(0), Edges.bits(0, 1));
        x.cell(1, 0, 0);
        Edges.due("as it was once more", x.stale(0), Edges.bits(0));
        x.smear(0, 0);
        Edges.due("smeared", x.stale(0), 0);
    }

    private static void twos() {
        Edges.says("III", "BOTH: twos of WALKERS each of whom WANTS a CELL that its own SHEET has not and the other one's has; by the lower, then the higher one.");
        FootMaps x = Edges.under("sees 0", 1, 3, 11, 13);
        int[] cells = {0, 2, 10, 12};
        for (int walker = 0; walker < 4; walker++) {
            x.step(walker, 4);
        }
        Edges.due("nobody wants", x.both(-1), 0);
        Edges.row("nobody wants", i -> x.both(i));
        for (int walker = 0; walker < 4; walker++) {
            x.wants(walker, Edges.bits(cells) & ~(1 << cells[walker]));
        }
        Edges.due("all twos", x.both(-1), 6);
        Edges.row("all twos", i -> x.both(i), 1, 2, 3, 12, 13, 23);
        x.wants(1, 1 << cells[3]);
        Edges.due("one wants but one cell", x.both(-1), 4);
        Edges.row("one wants but one cell", i -> x.both(i), 2, 3, 13, 23);
        x.wants(3, 1 << cells[3] | 1 << 24);
        Edges.due("one wants what it has, and what nobody has", x.both(-1), 1);
        Edges.row("one wants what it has, and what nobody has", i -> x.both(i), 2);
        x.wants(2, 0);
        Edges.due("one alone wants", x.both(-1), 0);
        FootMaps y = Edges.with(7, 7);
        y.step(0, 4);
        y.step(1, 2);
        y.wants(0, 1 << 9);
        y.wants(1, 1 << 7);
        Edges.due("one has what it wants", y.both(-1), 0);
        y.smear(7, 1);
        Edges.due("it has it no more", y.both(-1), 1);
        Edges.due("who", y.both(0), 1);
    }

    private static void yards() {
        Edges.says("III", "A YARD: CELLS at which all GLIMPSED would be so.");
        FootMaps x = new FootMaps();
        Edges.due("nothing glimpsed", x.yard(), Edges.ALL);
        kinds(x, 3, 0, 24);
        x.glimpse(4, 3);
        Edges.due("left of it kind 3", x.yard(), Edges.bits(1));
        x.forget();
        x.glimpse(2, 3);
        Edges.due("right of it kind 3, not over the edge", x.yard(), Edges.bits(23));
        x.glimpse(1, 4);
        Edges.due("and beyond it the edge", x.yard(), Edges.bits(23));
        x.glimpse(3, 0);
        x.glimpse(0, 0);
        x.glimpse(4, 0);
        Edges.due("five of them", x.yard(), Edges.bits(23));
        x.glimpse(4, 4);
        Edges.due("the sixth can't be with the fifth", x.yard(), 0);
        x.forget();
        x.glimpse(0, 2);
        Edges.due("no such kind", x.yard(), 0);
        x.cell(20, 2, 0);
        Edges.due("as the land is now", x.yard(), Edges.bits(20));
    }

    private static void looks() {
        Edges.says("III", "To LOOK: the WAY 0 .. 4 of which the most of these would see alike (KINDS, or beyond) are as few as can be; the lowest.");
        FootMaps x = new FootMaps();
        look("all alike but the edges", x, 1, 20);
        kinds(x, 1, 0, 1, 2, 3, 4, 5, 6);
        look("downwards, of two kinds", x, 3, 13);
        kinds(x, 2, 7, 8, 9, 10, 11, 12);
        look("downwards, of three kinds", x, 3, 7);
        FootMaps one = new FootMaps();
        one.cell(12, 3, 0);
        one.glimpse(0, 3);
        look("one cell alone", one, 0, 1);
        FootMaps two = new FootMaps();
        kinds(two, 3, 6, 8);
        two.glimpse(0, 3);
        two.cell(5, 1, 0);
        look("only to the left it differs", two, 4, 1);
        two.cell(13, 2, 0);
        look("upwards it differs, too", two, 1, 1);
        FootMaps edges = new FootMaps();
        kinds(edges, 3, 14, 7);
        edges.glimpse(0, 3);
        look("beyond is not alike", edges, 2, 1);
    }

    private static void look(String what, FootMaps x, int way, int left) {
        Edges.due(what + ": the way", x.look(0), way);
        Edges.due(what + ": how many are left", x.look(1), left);
    }

    private static void reached() {
        Edges.says("III", "REACH: CELLS to which a WALKER can come.");
        Edges.due("all", Edges.with(24).reach(0), Edges.ALL);
        FootMaps barred = Edges.under("bars", 0, 24);
        Edges.due("the first cell alone", barred.reach(0), 1);
        Edges.due("the last cell alone", barred.reach(1), 1 << 24);
        FootMaps walls = Edges.under("bars if kind=3", 0, 12);
        kinds(walls, 3, 2, 6, 10);
        Edges.due("a corner", walls.reach(0), Edges.bits(0, 1, 5));
        Edges.due("the rest", walls.reach(1), Edges.ALL & ~Edges.bits(0, 1, 5, 2, 6, 10));
        kinds(walls, 3, 12);
        Edges.due("where it is, though one is barred from there", walls.reach(1) >> 12 & 1, 1);
        FootMaps down = Edges.under("bars if rise>0", 12, 0);
        for (int cell = 0; cell < 25; cell++) {
            down.cell(cell, 0, 4 - Math.abs(cell % 5 - 2) - Math.abs(cell / 5 - 2));
        }
        Edges.due("downwards", down.reach(0), Edges.ALL);
        Edges.due("not upwards", down.reach(1), 1);
        Edges.due("the sixteenth step", maze("costs 9", 0).reach(0), Edges.ALL & ~Edges.bits(5, 6, 7, 8, 16, 17, 18, 19));
    }

    private static void covered() {
        Edges.says("III", "COVER: the fewest WALKERS whose SHEETS together have all that any SHEET has; the lowest as bits.");
        cover("no walkers", new FootMaps(), 0, 0);
        cover("blank sheets", Edges.with(0, 0, 0, 0), 0, 0);
        FootMaps x = Edges.under("sees 0", 1, 1, 3, 3);
        x.step(0, 4);
        cover("one has something", x, 1, 1);
        x.step(1, 4);
        cover("two have the same: the lower", x, 1, 1);
        x.step(2, 4);
        x.step(3, 4);
        cover("two of four", x, 2, 5);
        x.smear(0, 0);
        cover("the lowest as bits: 1 and 2", x, 2, 6);
        x.step(3, 1);
        cover("the last one has all of the third", x, 2, 10);
        x.step(0, 1);
        x.smear(2, 3);
        cover("each has what no other one has", x, 4, 15);
        FootMaps all = Edges.under("sees 0", 1, 6, 11, 16);
        for (int walker = 0; walker < 4; walker++) {
            all.step(walker, 4);
        }
        cover("all four", all, 4, 15);
        FootMaps kindsAside = Edges.with(11, 11);
        kindsAside.step(0, 2);
        kindsAside.cell(12, 3, 0);
        kindsAside.step(1, 2);
        cover("cells count, whatever kind a sheet has of them", kindsAside, 1, 1);
    }

    private static void cover(String what, FootMaps x, int many, int who) {
        Edges.due(what + ": how many", x.cover(0), many);
        Edges.due(what + ": who", x.cover(1), who);
    }

    private static void chances() {
        Edges.says("III", "FEW: the chance, of 1,000,000,000,000 parts, that of n paces, each of which smears in SMEARS of ten, fewer than k do: each part is cut.");
        FootMaps x = new FootMaps();
        Edges.due("one of ten", x.few(1, 1), 900000000000L);
        Edges.due("twelve paces", x.few(1, 12), 282429536481L);
        Edges.due("cut at the thirteenth", x.few(1, 13), 254186582832L);
        Edges.due("fewer than two of twelve", x.few(2, 12), 282429536481L + 12 * 31381059609L);
        x.terms(1, 5);
        long half = WHOLE;
        for (int n = 0; n <= 99; n++) {
            Edges.due("a half of a half, " + n + " times", x.few(1, n), half);
            half /= 2;
        }
        Edges.due("of two paces fewer than two", x.few(2, 2), 750000000000L);
        Edges.due("of twelve paces fewer than six", x.few(6, 12), (1 + 12 + 66 + 220 + 495 + 792) * 244140625L);
        x.terms(1, 0);
        for (int n = 0; n <= 99; n++) {
            Edges.due("never, of " + n, x.few(1, n), WHOLE);
        }
        x.terms(1, 10);
        for (int n = 0; n <= 99; n++) {
            Edges.due("always, of " + n, x.few(20, n), n < 20 ? WHOLE : 0);
        }
        x.terms(1, 9);
        Edges.due("nine of ten, at the twelfth", x.few(1, 12), 1);
        Edges.due("nine of ten, at the thirteenth", x.few(1, 13), 0);
        Edges.due("nine of ten", x.few(2, 2), 190000000000L);
    }

    private static void compared() {
        Edges.says("III", "COMPARED: what a WAY to a CELL costs by a LAW in place of that in FORCE (NONE: none).");
        FootMaps x = Edges.under("costs 3", 0);
        Edges.law(x, "costs 9 if kind=0;bars if kind=3");
        Edges.due("by none", x.compare(-1, 0, 24), 8);
        Edges.due("by that in force", x.compare(0, 0, 24), 24);
        Edges.due("by the other one", x.compare(1, 0, 24), 72);
        Edges.due("where it is", x.compare(1, 0, 0), 0);
        kinds(x, 3, 19, 23);
        Edges.due("barred by the other one", x.compare(1, 0, 24), -1);
        Edges.due("not by that in force", x.compare(0, 0, 24), 24);
        Edges.due("that in force is as it was", x.count(11), 0);
        Edges.due("and its way", x.way(0, 24, -1), 24);
    }

    private static void wayCall() {
        Edges.says("24", "A WAY: what it costs (i NONE), the i-th CELL it comes to.");
        FootMaps x = Edges.under("costs 2", 12, 24);
        way("from the centre", x, 24, 8, 13, 14, 19, 24);
        Edges.due("the other walker's", x.way(1, 24, -1), 0);
        Edges.due("the other walker's", x.way(1, 23, 0), 23);
        Edges.says("24", "NONE (there is none).");
        wrongAsked((walker, cell, i) -> x.way(walker, cell, i));
        FootMaps barred = Edges.under("bars", 12);
        Edges.due("no way: its cost", barred.way(0, 13, -1), -1);
        Edges.due("no way: its first cell", barred.way(0, 13, 0), -1);
        Edges.due("that is no refusal", x.status(), 0);
        Edges.due("that is not counted", x.count(7), 0);
    }

    /** A question of a walker, a cell and a number, of which two walkers there are. */
    private interface Asked {
        int of(int walker, int cell, int i);
    }

    private static void wrongAsked(Asked asked) {
        for (int walker : NO_WALKERS_OF_TWO) {
            Edges.due("of walker " + walker, asked.of(walker, 12, -1), -1);
            Edges.due("of walker " + walker, asked.of(walker, 12, 0), -1);
        }
        for (int cell : NO_CELLS) {
            Edges.due("to cell " + cell, asked.of(0, cell, -1), -1);
            Edges.due("to cell " + cell, asked.of(0, cell, 0), -1);
        }
        for (int i : new int[] {-2, 25, 100, Edges.LEAST, Edges.MOST}) {
            Edges.due("at " + i, asked.of(0, 13, i), -1);
        }
        Edges.due("where it is, at 0", asked.of(0, 12, 0), -1);
    }

    private static void sureCall() {
        Edges.says("25", "SURE, as for way().");
        FootMaps x = Edges.under("sees 3;costs 2", 11, 24);
        x.step(0, 2);
        sure("over what the sheet has", x, 22, 4, 17, 22);
        sure("to what it has not", x, 24, -1);
        way("but there is a way", x, 24, 8, 13, 14, 19, 24);
        Edges.says("25", "NONE.");
        wrongAsked((walker, cell, i) -> x.sure(walker, cell, i));
        Edges.due("with a blank sheet", x.sure(1, 23, -1), -1);
        Edges.due("with a blank sheet, where it is", x.sure(1, 24, -1), 0);
    }

    private static void tourCall() {
        Edges.says("26", "A TOUR: what it costs (i NONE), the i-th CELL it comes to.");
        FootMaps x = Edges.under("costs 7", 12, 0);
        x.wants(0, Edges.bits(2));
        tour("to where 2 is seen", x, 7, 7);
        x.wants(0, Edges.bits(0, 24));
        tour("to both corners", x, 7 * 9, 7, 2, 1, 2, 3, 4, 9, 14, 19);
        tour1("nothing is wanted", x);
        Edges.says("26", "NONE (it can't be).");
        for (int walker : NO_WALKERS_OF_TWO) {
            Edges.due("tour(" + walker + ", -1)", x.tour(walker, -1), -1);
            Edges.due("tour(" + walker + ", 0)", x.tour(walker, 0), -1);
        }
        Edges.law(x, "bars");
        x.force(1);
        tour("barred", x, -1);
        Edges.due("barred, but nothing is wanted", x.tour(1, -1), 0);
        x.wants(1, 1);
        Edges.due("barred, and where it is is wanted", x.tour(1, -1), -1);
    }

    private static void tour1(String what, FootMaps x) {
        IntUnaryOperator asked = i -> x.tour(1, i);
        Edges.due(what + " costs", asked.applyAsInt(-1), 0);
        Edges.row(what, asked);
    }

    private static void meetCall() {
        Edges.says("27", "To MEET: the CELL (what 0), the greater cost (1).");
        FootMaps x = Edges.under("costs 2;costs 9 if walker=1", 0, 2);
        Edges.due("the cell", x.meet(0, 1, 0), 2);
        Edges.due("the cost", x.meet(0, 1, 1), 4);
        Edges.says("27", "NONE (they can't; one alone).");
        for (int what : new int[] {-1, 2, Edges.LEAST, Edges.MOST}) {
            Edges.due("meet(0, 1, " + what + ")", x.meet(0, 1, what), -1);
        }
        for (int walker : NO_WALKERS_OF_TWO) {
            Edges.due("meet(0, " + walker + ", 0)", x.meet(0, walker, 0), -1);
            Edges.due("meet(" + walker + ", 0, 0)", x.meet(walker, 0, 0), -1);
            Edges.due("meet(" + walker + ", itself, 0)", x.meet(walker, walker, 0), -1);
        }
        for (int what = 0; what < 2; what++) {
            Edges.due("one alone", x.meet(0, 0, what), -1);
            Edges.due("the other one alone", x.meet(1, 1, what), -1);
            Edges.due("they can't", Edges.under("bars", 0, 1).meet(0, 1, what), -1);
        }
    }

    private static void staleCall() {
        Edges.says("28", "STALE, as bits.");
        FootMaps x = Edges.under("sees 3", 11, 0);
        x.step(0, 2);
        for (int cell = 0; cell < 25; cell++) {
            x.cell(cell, 1 + cell % 3, 0);
        }
        Edges.due("all that it has", x.stale(0), Edges.ALL & ~Edges.bits(0, 4, 20, 24));
        Edges.due("a blank sheet", x.stale(1), 0);
        Edges.says("28", "NONE.");
        for (int walker : NO_WALKERS_OF_TWO) {
            Edges.due("stale(" + walker + ")", x.stale(walker), -1);
        }
    }

    private static void bothCall() {
        Edges.says("29", "BOTH: how many twos (i NONE), the i-th as ten times the lower and the higher one.");
        FootMaps x = Edges.with(6, 24, 6, 18);
        x.step(2, 1);
        x.step(3, 2);
        x.wants(2, 1 << 24);
        x.wants(3, 1 << 6);
        Edges.due("one two", x.both(-1), 1);
        Edges.due("it", x.both(0), 23);
        Edges.says("29", "NONE.");
        for (int i : new int[] {1, 2, 6, -2, Edges.LEAST, Edges.MOST}) {
            Edges.due("both(" + i + ")", x.both(i), -1);
        }
        FootMaps none = new FootMaps();
        Edges.due("no walkers", none.both(-1), 0);
        Edges.due("the first of none", none.both(0), -1);
        FootMaps alone = Edges.with(3);
        alone.wants(0, 7);
        Edges.due("one walker", alone.both(-1), 0);
    }

    private static void glimpseCall() {
        Edges.says("30", "GLIMPSED by a WAY 0 .. 4 a KIND 0 .. 3, 4 beyond: how often there was.");
        FootMaps x = new FootMaps();
        Edges.good("the first", x, 1, x.glimpse(0, 0));
        Edges.good("the same once more", x, 2, x.glimpse(0, 0));
        Edges.good("beyond", x, 3, x.glimpse(4, 4));
        Edges.good("the fourth", x, 4, x.glimpse(1, 0));
        Edges.good("the fifth", x, 5, x.glimpse(2, 0));
        Edges.due("the yard", x.yard(), Edges.bits(0, 5, 10, 15));
        Edges.good("the sixth", x, 6, x.glimpse(3, 4));
        Edges.due("the yard by the sixth", x.yard(), 1);
        Edges.says("30", "-1; -5.");
        Edges.refused("the seventh", x, -5, x.glimpse(0, 0));
        for (int wrong : new int[] {-1, 5, Edges.LEAST, Edges.MOST}) {
            Edges.refused("glimpse(" + wrong + ", 0)", x, -1, x.glimpse(wrong, 0));
            Edges.refused("glimpse(0, " + wrong + ")", x, -1, x.glimpse(0, wrong));
        }
        Edges.due("how often", x.count(2), 6);
        x.forget();
        for (int wrong : new int[] {-1, 5, Edges.LEAST, Edges.MOST}) {
            Edges.refused("glimpse(" + wrong + ", 0)", x, -1, x.glimpse(wrong, 0));
            Edges.refused("glimpse(0, " + wrong + ")", x, -1, x.glimpse(0, wrong));
        }
        Edges.due("how often", x.count(2), 0);
        Edges.due("the yard", x.yard(), Edges.ALL);
    }

    private static void forgetCall() {
        Edges.says("31", "GLIMPSED is nothing then: how often there was.");
        FootMaps x = new FootMaps();
        Edges.due("nothing", x.forget(), 0);
        for (int often = 0; often < 6; often++) {
            x.glimpse(0, 3);
        }
        x.glimpse(0, 3);
        Edges.due("six", x.forget(), 6);
        Edges.due("its status is the latest one's", x.status(), -5);
        Edges.due("none is left", x.count(2), 0);
        Edges.due("the yard is all", x.yard(), Edges.ALL);
        Edges.due("nothing once more", x.forget(), 0);
        Edges.due("there is room again", x.glimpse(0, 0), 1);
    }

    private static void yardCall() {
        Edges.says("32", "A YARD: CELLS, as bits.");
        FootMaps x = new FootMaps();
        Edges.due("all", x.yard(), Edges.ALL);
        x.glimpse(1, 4);
        Edges.due("the upper row", x.yard(), 31 << 20);
        x.glimpse(3, 4);
        Edges.due("none", x.yard(), 0);
    }

    private static void lookCall() {
        Edges.says("33", "To LOOK: the WAY (what 0), how many CELLS are left at most (1).");
        FootMaps x = new FootMaps();
        look("on a new object", x, 1, 20);
        x.glimpse(1, 4);
        look("in the upper row", x, 2, 4);
        x.glimpse(2, 0);
        look("in the upper row, not at its end", x, 4, 3);
        x.glimpse(4, 4);
        look("in the corner", x, 0, 1);
        Edges.says("33", "NONE (no YARD).");
        for (int what : new int[] {-1, 2, Edges.LEAST, Edges.MOST}) {
            Edges.due("look(" + what + ")", x.look(what), -1);
        }
        x.glimpse(3, 4);
        Edges.due("no yard: the way", x.look(0), -1);
        Edges.due("no yard: how many", x.look(1), -1);
    }

    private static void reachCall() {
        Edges.says("34", "REACH, as bits.");
        FootMaps x = Edges.under("bars if walker=1", 0, 24);
        Edges.due("all", x.reach(0), Edges.ALL);
        Edges.due("one alone", x.reach(1), 1 << 24);
        Edges.says("34", "NONE.");
        for (int walker : NO_WALKERS_OF_TWO) {
            Edges.due("reach(" + walker + ")", x.reach(walker), -1);
        }
    }

    private static void coverCall() {
        Edges.says("35", "COVER: how many (what 0), who, as bits (1).");
        FootMaps x = Edges.with(0, 24, 0, 0);
        x.step(3, 2);
        x.step(1, 4);
        cover("the second and the fourth", x, 2, 10);
        Edges.says("35", "NONE.");
        for (int what : new int[] {-1, 2, Edges.LEAST, Edges.MOST}) {
            Edges.due("cover(" + what + ")", x.cover(what), -1);
            Edges.due("cover(" + what + ") without walkers", new FootMaps().cover(what), -1);
        }
    }

    private static void fewCall() {
        Edges.says("36", "FEW, k 1 .. 20, n 0 .. 99.");
        FootMaps x = new FootMaps();
        Edges.due("few(1, 0)", x.few(1, 0), WHOLE);
        Edges.due("few(20, 0)", x.few(20, 0), WHOLE);
        Edges.due("few(20, 12)", x.few(20, 12), WHOLE);
        x.terms(1, 0);
        Edges.due("few(20, 99)", x.few(20, 99), WHOLE);
        Edges.due("few(1, 99)", x.few(1, 99), WHOLE);
        x.terms(1, 10);
        Edges.due("few(20, 99), when all smear", x.few(20, 99), 0);
        Edges.due("few(20, 19), when all smear", x.few(20, 19), WHOLE);
        Edges.due("few(20, 20), when all smear", x.few(20, 20), 0);
        Edges.due("few(1, 1), when all smear", x.few(1, 1), 0);
        Edges.says("36", "NONE.");
        for (int k : new int[] {0, 21, -1, Edges.LEAST, Edges.MOST}) {
            Edges.due("few(" + k + ", 5)", x.few(k, 5), -1);
        }
        for (int n : new int[] {-1, 100, Edges.LEAST, Edges.MOST}) {
            Edges.due("few(5, " + n + ")", x.few(5, n), -1);
        }
    }

    private static void compareCall() {
        Edges.says("37", "COMPARED.");
        FootMaps x = Edges.with(12, 0);
        for (int law = 0; law < 6; law++) {
            Edges.law(x, "costs " + (law + 2));
        }
        Edges.due("by none", x.compare(-1, 0, 24), 4);
        for (int law = 0; law < 6; law++) {
            Edges.due("by law " + law, x.compare(law, 0, 24), 4 * (law + 2));
        }
        Edges.says("37", "NONE (no such LAW; there is no WAY).");
        for (int law : new int[] {6, -2, Edges.LEAST, Edges.MOST}) {
            Edges.due("compare(" + law + ", 0, 24)", x.compare(law, 0, 24), -1);
        }
        for (int walker : NO_WALKERS_OF_TWO) {
            Edges.due("compare(0, " + walker + ", 24)", x.compare(0, walker, 24), -1);
        }
        for (int cell : NO_CELLS) {
            Edges.due("compare(0, 0, " + cell + ")", x.compare(0, 0, cell), -1);
        }
        FootMaps barred = Edges.with(12);
        Edges.due("no law yet", barred.compare(0, 0, 13), -1);
        Edges.law(barred, "bars");
        Edges.due("no way", barred.compare(0, 0, 13), -1);
        Edges.due("no way, but it is there", barred.compare(0, 0, 12), 0);
    }
}
