/** Boundary cases of term I and of the promises 1 to 9: cells, walkers, sheets, terms. */
public final class LandEdgesTest {
    private static final int[] NO_CELLS = {-1, 25, 26, 32, Edges.LEAST, Edges.MOST};
    private static final int[] NO_WALKERS_OF_TWO = {-1, 2, 3, 4, Edges.LEAST, Edges.MOST};

    public static void main(String[] args) {
        calls();
        cells();
        kindsAndHeights();
        ways();
        walkers();
        paces();
        sheets();
        wanted();
        glimpsed();
        minutes();
        smears();
        moods();
        refusals();
        firstRefusal();
        newObject();
        cellCall();
        landCall();
        walkerCall();
        ofCall();
        sheetCall();
        asksCall();
        wantsCall();
        termsCall();
        Edges.end();
    }

    private static void calls() {
        Edges.says("0", "An object is used for at most 512 calls after it has been made");
        FootMaps x = new FootMaps();
        for (int call = 1; call < 512; call++) {
            x.cell(call % 25, call % 4, call % 10);
        }
        Edges.due("the 512th call", x.cell(511 % 25, 0, 0), 511 % 4);
        Edges.says("0", "NONE = -1");
        Edges.due("NONE", FootMaps.NONE, -1);
    }

    private static void cells() {
        Edges.says("I", "CELLS 0 .. 24 (5 times y and x; x, y 0 .. 4)");
        FootMaps x = new FootMaps();
        for (int cell = 0; cell < 25; cell++) {
            Edges.due("cell(" + cell + ")", x.cell(cell, cell % 4, cell % 10), 0);
        }
        for (int cell = 0; cell < 25; cell++) {
            Edges.due("land(" + cell + ", 0)", x.land(cell, 0), cell % 4);
            Edges.due("land(" + cell + ", 1)", x.land(cell, 1), cell % 10);
        }
        for (int cell : NO_CELLS) {
            Edges.due("cell(" + cell + ", 0, 0)", x.cell(cell, 0, 0), -1);
            Edges.due("walker(" + cell + ", 1)", x.walker(cell, 1), -1);
            Edges.due("land(" + cell + ", 0)", x.land(cell, 0), -1);
        }
        FootMaps y = Edges.with(6);
        y.step(0, 2);
        Edges.due("what is seen around cell 7", y.of(0, 4), Edges.bits(7, 2, 6, 8, 12));
    }

    private static void kindsAndHeights() {
        Edges.says("I", "a KIND 0 .. 3, a HEIGHT 0 .. 9 (both 0 at first).");
        FootMaps x = new FootMaps();
        for (int cell = 0; cell < 25; cell++) {
            Edges.due("kind of " + cell + " at first", x.land(cell, 0), 0);
            Edges.due("height of " + cell + " at first", x.land(cell, 1), 0);
        }
        Edges.due("cell(3, 3, 9)", x.cell(3, 3, 9), 0);
        Edges.due("the greatest kind", x.land(3, 0), 3);
        Edges.due("the greatest height", x.land(3, 1), 9);
        for (int kind : new int[] {-1, 4, Edges.LEAST, Edges.MOST}) {
            Edges.due("kind " + kind, x.cell(3, kind, 0), -1);
        }
        for (int height : new int[] {-1, 10, Edges.LEAST, Edges.MOST}) {
            Edges.due("height " + height, x.cell(3, 0, height), -1);
        }
        Edges.due("the kind behind what was refused", x.land(3, 0), 3);
        Edges.due("the height behind what was refused", x.land(3, 1), 9);
        Edges.due("cell(3, 0, 0)", x.cell(3, 0, 0), 3);
        Edges.due("the least kind", x.land(3, 0), 0);
        Edges.due("the least height", x.land(3, 1), 0);
    }

    /** From every cell by every way, so that no row goes on at the other edge. */
    private static void ways() {
        Edges.says("I", "WAYS 1 up (y one more), 2 right (x one more), 3 down, 4 left");
        int[] moreX = {0, 0, 1, 0, -1};
        int[] moreY = {0, 1, 0, -1, 0};
        for (int cell = 0; cell < 25; cell++) {
            for (int way = 1; way <= 4; way++) {
                int toX = cell % 5 + moreX[way];
                int toY = cell / 5 + moreY[way];
                boolean within = toX >= 0 && toX <= 4 && toY >= 0 && toY <= 4;
                FootMaps x = Edges.with(cell);
                String step = "from " + cell + " by way " + way;
                Edges.due(step, x.step(0, way), within ? 1 : -3);
                Edges.due(step + " it is in", x.of(0, 0), within ? 5 * toY + toX : cell);
            }
        }
        Edges.says("I", "0 where one is.");
        FootMaps x = new FootMaps();
        x.cell(12, 3, 0);
        int[] yards = {12, 7, 11, 17, 13};
        for (int way = 0; way <= 4; way++) {
            x.forget();
            x.glimpse(way, 3);
            Edges.due("from where one glimpses cell 12 by way " + way, x.yard(), 1 << yards[way]);
        }
    }

    private static void walkers() {
        Edges.says("I", "WALKERS 0 .. 3 (4 at most)");
        FootMaps x = new FootMaps();
        for (int walker = 0; walker < 4; walker++) {
            Edges.due("walkers", x.count(0), walker);
            Edges.due("of(" + walker + ", 0) ahead of it", x.of(walker, 0), -1);
            Edges.due("walker " + walker, x.walker(20 + walker, 1 + walker), walker);
        }
        Edges.due("a fifth walker", x.walker(0, 1), -5);
        Edges.due("walkers", x.count(0), 4);
        for (int walker = 0; walker < 4; walker++) {
            Edges.due("cell of " + walker, x.of(walker, 0), 20 + walker);
            Edges.due("pace of " + walker, x.of(walker, 1), 1 + walker);
            Edges.due("step of " + walker, x.step(walker, 3), 1);
        }
        Edges.due("of(4, 0)", x.of(4, 0), -1);
        Edges.due("step of a fifth", x.step(4, 3), -2);
    }

    private static void paces() {
        Edges.says("I", "a CELL, PACE 1 .. 9");
        FootMaps x = new FootMaps();
        for (int pace : new int[] {0, 10, -1, Edges.LEAST, Edges.MOST}) {
            Edges.due("pace " + pace, x.walker(0, pace), -1);
        }
        Edges.due("walkers", x.count(0), 0);
        Edges.due("pace 1", x.walker(0, 1), 0);
        Edges.due("pace 9", x.walker(24, 9), 1);
        Edges.due("of(0, 1)", x.of(0, 1), 1);
        Edges.due("of(1, 1)", x.of(1, 1), 9);
        Edges.due("of(0, 0)", x.of(0, 0), 0);
        Edges.due("of(1, 0)", x.of(1, 0), 24);
    }

    private static void sheets() {
        Edges.says("I", "a SHEET: of each CELL blank (at first), or the KIND it had when it came up");
        FootMaps x = Edges.with(12);
        for (int cell = 0; cell < 25; cell++) {
            Edges.due("sheet(0, " + cell + ") at first", x.sheet(0, cell), -1);
        }
        x.cell(13, 3, 0);
        x.cell(14, 2, 0);
        x.step(0, 2);
        x.cell(13, 1, 0);
        x.cell(14, 0, 0);
        Edges.due("its own cell, of kind 3 then", x.sheet(0, 13), 3);
        Edges.due("the next cell, of kind 2 then", x.sheet(0, 14), 2);
        Edges.due("a cell of kind 0 is not blank", x.sheet(0, 18), 0);
        Edges.due("a cell that did not come up", x.sheet(0, 11), -1);
        FootMaps y = Edges.under("sees 3", 5, 23);
        y.cell(0, 3, 0);
        y.cell(24, 2, 0);
        y.step(0, 3);
        y.step(1, 2);
        Edges.due("the lowest cell on a sheet", y.sheet(0, 0), 3);
        Edges.due("the highest cell on a sheet", y.sheet(1, 24), 2);
    }

    private static void wanted() {
        Edges.says("I", "WANTS: six CELLS at most, as bits (none at first).");
        FootMaps x = Edges.with(12);
        Edges.due("wants at first", x.of(0, 2), 0);
        int six = Edges.bits(0, 3, 7, 11, 19, 24);
        Edges.due("six cells", x.wants(0, six), 0);
        Edges.due("they are wanted", x.of(0, 2), six);
        Edges.due("seven cells", x.wants(0, six | 1 << 1), -1);
        Edges.due("all cells", x.wants(0, Edges.ALL), -1);
        Edges.due("cell 25", x.wants(0, 1 << 25), -1);
        Edges.due("cell 30", x.wants(0, 1 << 30), -1);
        Edges.due("a number below 0", x.wants(0, -1), -1);
        Edges.due("the least number", x.wants(0, Edges.LEAST), -1);
        Edges.due("they are wanted still", x.of(0, 2), six);
        Edges.due("cell 24 alone", x.wants(0, 1 << 24), six);
        Edges.due("none", x.wants(0, 0), 1 << 24);
        Edges.due("none is wanted", x.of(0, 2), 0);
    }

    private static void glimpsed() {
        Edges.says("I", "GLIMPSED, 6 at most: by a WAY from a yard a KIND 0 .. 3, or 4: beyond the edge.");
        FootMaps x = new FootMaps();
        for (int often = 1; often <= 6; often++) {
            Edges.due("glimpse " + often, x.glimpse(0, 0), often);
        }
        Edges.due("a seventh", x.glimpse(4, 4), -5);
        Edges.due("six are kept", x.count(2), 6);
        Edges.due("the seventh is not asked", x.yard(), Edges.ALL);
        x.forget();
        for (int kind : new int[] {-1, 5, Edges.LEAST, Edges.MOST}) {
            Edges.due("kind " + kind, x.glimpse(1, kind), -1);
        }
        for (int kind = 0; kind <= 3; kind++) {
            x.cell(6 + kind, kind, 0);
        }
        for (int kind = 0; kind <= 3; kind++) {
            Edges.due("kind " + kind, x.glimpse(0, kind), 1);
            Edges.due("seen in a yard", x.yard() >> 6 & 15, 1 << kind);
            x.forget();
        }
        Edges.due("beyond", x.glimpse(3, 4), 1);
        Edges.due("beyond the lower edge", x.yard(), 31);
        Edges.due("and at once beyond the left one", x.glimpse(4, 4), 2);
        Edges.due("the corner", x.yard(), 1);
        x.forget();
        x.glimpse(1, 4);
        x.glimpse(2, 4);
        Edges.due("the other corner", x.yard(), 1 << 24);
        x.glimpse(0, 4);
        Edges.due("where one is, is never beyond", x.yard(), 0);
    }

    private static void minutes() {
        Edges.says("I", "TERMS: 0 MINUTE 0 .. 999 (0 at first)");
        ranges(0, 999, 0);
    }

    private static void smears() {
        Edges.says("I", "1 SMEARS 0 .. 10 (1)");
        ranges(1, 10, 1);
    }

    private static void moods() {
        Edges.says("I", "2 MOOD 0 .. 9 (0).");
        ranges(2, 9, 0);
    }

    private static void ranges(int term, int most, int atFirst) {
        FootMaps x = new FootMaps();
        Edges.due("at first", x.count(12 + term), atFirst);
        for (int value : new int[] {-1, most + 1, Edges.LEAST, Edges.MOST}) {
            Edges.due("value " + value, x.terms(term, value), -1);
            Edges.due("it is as it was", x.count(12 + term), atFirst);
        }
        Edges.due("the most", x.terms(term, most), atFirst);
        Edges.due("the most is there", x.count(12 + term), most);
        Edges.due("0", x.terms(term, 0), most);
        Edges.due("0 is there", x.count(12 + term), 0);
    }

    private static void refusals() {
        Edges.says("I", "REFUSED by: -1 a number that can't be");
        FootMaps x = Edges.with(0, 12);
        String ahead = Edges.state(x);
        Edges.refused("cell(25, 0, 0)", x, -1, x.cell(25, 0, 0));
        Edges.refused("terms(3, 0)", x, -1, x.terms(3, 0));
        Edges.refused("image(2)", x, -1, x.image(2));
        Edges.same("nothing is changed", Edges.state(x), ahead);
        Edges.says("I", "-2 there is no such WALKER, LAW, IMAGE");
        Edges.refused("step(2, 1)", x, -2, x.step(2, 1));
        Edges.refused("step(-1, 1)", x, -2, x.step(-1, 1));
        Edges.refused("force(0)", x, -2, x.force(0));
        Edges.refused("force(-2)", x, -2, x.force(-2));
        Edges.refused("back(0)", x, -2, x.back(0));
        Edges.same("nothing is changed", Edges.state(x), ahead);
        Edges.says("I", "-3 it can't be by what stands");
        Edges.refused("step(0, 3)", x, -3, x.step(0, 3));
        Edges.refused("join(0, 1)", x, -3, x.join(0, 1));
        Edges.refused("smear(0, 0)", x, -3, x.smear(0, 0));
        Edges.refused("undo()", x, -3, x.undo());
        Edges.same("nothing is changed", Edges.state(x), ahead);
        Edges.says("I", "-5 no room");
        FootMaps y = Edges.with(0, 1, 2, 3);
        Edges.refused("a fifth walker", y, -5, y.walker(4, 1));
        Edges.says("I", "-6 a TEXT, a ROW that can't be.");
        Edges.refused("row()", y, -6, y.row());
        Edges.refused("law()", y, -6, Edges.law(y, "cost 1"));
        Edges.refused("orders()", y, -6, Edges.orders(y, "pas"));
    }

    private static void firstRefusal() {
        Edges.says("I", "The first of these in that order.");
        FootMaps none = new FootMaps();
        Edges.refused("-1 ahead of -3: days", none, -1, none.days(0, 0));
        FootMaps x = Edges.with(0, 12, 12, 12);
        Edges.refused("-1 ahead of -2: wants", x, -1, x.wants(4, 127));
        Edges.refused("-1 ahead of -2: step", x, -1, x.step(4, 5));
        Edges.refused("-1 ahead of -2: join", x, -1, x.join(4, 4));
        Edges.refused("-1 ahead of -2: smear", x, -1, x.smear(25, 4));
        Edges.refused("-1 ahead of -2: back", x, -1, x.back(2));
        Edges.refused("-1 ahead of -3: smear", x, -1, x.smear(-1, 0));
        Edges.refused("-2 ahead of -3: join", x, -2, x.join(0, 4));
        Edges.refused("-2 ahead of -3: join", x, -2, x.join(-1, 0));
        Edges.refused("-2 ahead of -3: smear", x, -2, x.smear(3, 4));
        Edges.refused("-1 ahead of -5: walker", x, -1, x.walker(25, 1));
        Edges.refused("-1 ahead of -5: walker", x, -1, x.walker(0, 10));
        for (int often = 0; often < 6; often++) {
            x.glimpse(0, 0);
        }
        Edges.refused("-1 ahead of -5: glimpse", x, -1, x.glimpse(5, 0));
        Edges.refused("-1 ahead of -5: glimpse", x, -1, x.glimpse(0, 5));
        for (int law = 0; law < 6; law++) {
            Edges.law(x, "bars");
        }
        Edges.refused("-5 ahead of -6: law", x, -5, Edges.law(x, "bar"));
        Edges.refused("-5 ahead of -6: an empty tape", x, -5, x.law());
    }

    private static void newObject() {
        Edges.says("1", "A land without walkers.");
        FootMaps x = new FootMaps();
        int[] counts = {0, 0, 0, 0, 0, 0, 0, 0, 0, 0, 0, -1, 0, 1, 0};
        for (int what = 0; what < counts.length; what++) {
            Edges.due("count(" + what + ")", x.count(what), counts[what]);
        }
        Edges.due("status()", x.status(), 0);
        Edges.due("fault()", x.fault(), -1);
        Edges.due("stopped()", x.stopped(), -1);
        Edges.due("blots()", x.blots(), 0);
        for (int cell = 0; cell < 25; cell++) {
            Edges.due("who is in " + cell, x.land(cell, 2), 0);
        }
        Edges.due("of(0, 0)", x.of(0, 0), -1);
        Edges.due("sheet(0, 0)", x.sheet(0, 0), -1);
        Edges.due("asks(0, 1, 0)", x.asks(0, 1, 0), -1);
        Edges.due("wants(0, 0)", x.wants(0, 0), -2);
        Edges.due("step(0, 1)", x.step(0, 1), -2);
        Edges.due("join(0, 1)", x.join(0, 1), -2);
        Edges.due("smear(0, 0)", x.smear(0, 0), -2);
        Edges.due("way(0, 0, -1)", x.way(0, 0, -1), -1);
        Edges.due("sure(0, 0, -1)", x.sure(0, 0, -1), -1);
        Edges.due("tour(0, -1)", x.tour(0, -1), -1);
        Edges.due("meet(0, 1, 0)", x.meet(0, 1, 0), -1);
        Edges.due("stale(0)", x.stale(0), -1);
        Edges.due("reach(0)", x.reach(0), -1);
        Edges.due("compare(-1, 0, 0)", x.compare(-1, 0, 0), -1);
        Edges.due("drawn(0, 0)", x.drawn(0, 0), -1);
        Edges.due("days(0, 1)", x.days(0, 1), -3);
        FootMaps other = new FootMaps();
        x.walker(0, 1);
        x.cell(0, 3, 3);
        Edges.due("another object's walkers", other.count(0), 0);
        Edges.due("another object's cells", other.land(0, 0), 0);
    }

    private static void cellCall() {
        Edges.says("2", "A CELL has a KIND and a HEIGHT then: the KIND it had.");
        FootMaps x = Edges.with(12);
        Edges.good("the first time", x, 0, x.cell(24, 3, 9));
        Edges.good("the second time", x, 3, x.cell(24, 2, 1));
        Edges.good("the same once more", x, 2, x.cell(24, 2, 1));
        Edges.due("kind", x.land(24, 0), 2);
        Edges.due("height", x.land(24, 1), 1);
        Edges.due("the cell beside it", x.land(23, 0), 0);
        Edges.due("it does not come up on a sheet", x.of(0, 3), 0);
        Edges.says("2", "-1.");
        String ahead = Edges.state(x);
        for (int cell : NO_CELLS) {
            Edges.refused("cell(" + cell + ", 1, 1)", x, -1, x.cell(cell, 1, 1));
        }
        for (int bad : new int[] {-1, Edges.LEAST, Edges.MOST}) {
            Edges.refused("kind " + bad, x, -1, x.cell(0, bad, 1));
            Edges.refused("height " + bad, x, -1, x.cell(0, 1, bad));
        }
        Edges.refused("kind 4", x, -1, x.cell(0, 4, 1));
        Edges.refused("height 10", x, -1, x.cell(0, 1, 10));
        Edges.same("nothing is changed", Edges.state(x), ahead);
        Edges.due("how often it was refused", x.count(6), 14);
    }

    private static void landCall() {
        Edges.says("3", "Of a CELL KIND (what 0), HEIGHT (1), who is there, as bits (2).");
        FootMaps x = Edges.with(24, 0, 24, 24);
        x.cell(24, 3, 9);
        Edges.due("land(24, 0)", x.land(24, 0), 3);
        Edges.due("land(24, 1)", x.land(24, 1), 9);
        Edges.due("land(24, 2)", x.land(24, 2), 13);
        Edges.due("land(0, 2)", x.land(0, 2), 2);
        Edges.due("nobody is there", x.land(12, 2), 0);
        x.step(1, 2);
        Edges.due("who has gone", x.land(0, 2), 0);
        Edges.due("who has come", x.land(1, 2), 2);
        FootMaps all = Edges.with(7, 7, 7, 7);
        Edges.due("all four", all.land(7, 2), 15);
        Edges.says("3", "NONE.");
        for (int cell : NO_CELLS) {
            for (int what = 0; what < 3; what++) {
                Edges.due("land(" + cell + ", " + what + ")", x.land(cell, what), -1);
            }
        }
        for (int what : new int[] {-1, 3, Edges.LEAST, Edges.MOST}) {
            Edges.due("land(24, " + what + ")", x.land(24, what), -1);
        }
        Edges.due("that is no refusal", x.status(), 0);
        Edges.due("that is not counted", x.count(6), 0);
    }

    private static void walkerCall() {
        Edges.says("4", "A WALKER with a blank SHEET: its number.");
        FootMaps x = new FootMaps();
        for (int walker = 0; walker < 4; walker++) {
            Edges.good("walker " + walker, x, walker, x.walker(12, 9));
            Edges.due("its sheet", x.of(walker, 4), 0);
            Edges.due("its wants", x.of(walker, 2), 0);
            x.step(walker, 1);
            x.wants(walker, 1);
        }
        FootMaps again = new FootMaps();
        again.image(0);
        again.walker(12, 9);
        again.step(0, 1);
        again.wants(0, 7);
        again.back(0);
        Edges.good("a walker where another one was ahead of back()", again, 0, again.walker(3, 2));
        Edges.due("its sheet", again.of(0, 4), 0);
        Edges.due("its wants", again.of(0, 2), 0);
        Edges.due("what is on it", again.sheet(0, 17), -1);
        Edges.says("4", "-1; -5.");
        FootMaps y = new FootMaps();
        Edges.refused("walker(-1, 1)", y, -1, y.walker(-1, 1));
        Edges.refused("walker(25, 1)", y, -1, y.walker(25, 1));
        Edges.refused("walker(0, 0)", y, -1, y.walker(0, 0));
        Edges.refused("walker(0, 10)", y, -1, y.walker(0, 10));
        Edges.due("walkers", y.count(0), 0);
        for (int walker = 0; walker < 4; walker++) {
            y.walker(walker, 1);
        }
        String ahead = Edges.state(y);
        Edges.refused("a fifth", y, -5, y.walker(0, 1));
        Edges.refused("a fifth with no pace", y, -1, y.walker(0, 0));
        Edges.same("nothing is changed", Edges.state(y), ahead);
    }

    private static void ofCall() {
        Edges.says("5", "Of a WALKER the CELL (what 0), PACE (1), WANTS as bits (2), how many CELLS its SHEET has (3), these as bits (4), how far it SEES from where it is (5).");
        FootMaps x = new FootMaps();
        x.walker(24, 9);
        x.wants(0, 1 << 24);
        int[] atFirst = {24, 9, 1 << 24, 0, 0, 1};
        for (int what = 0; what < 6; what++) {
            Edges.due("of(0, " + what + ")", x.of(0, what), atFirst[what]);
        }
        Edges.law(x, "sees 3 if kind=1;sees 0 if kind=2");
        x.force(0);
        x.cell(23, 1, 0);
        x.step(0, 4);
        Edges.due("how many behind a far sight", x.of(0, 3), 13);
        Edges.due("how far it sees from there", x.of(0, 5), 3);
        x.cell(23, 2, 0);
        Edges.due("how far it sees when the kind is another one", x.of(0, 5), 0);
        x.cell(23, 0, 0);
        Edges.due("how far it sees without a clause that holds", x.of(0, 5), 1);
        FootMaps whole = Edges.under("sees 3", 6);
        for (int way : new int[] {2, 2, 1, 1, 4, 4, 1}) {
            whole.step(0, way);
        }
        whole.step(0, 2);
        whole.step(0, 2);
        Edges.due("all cells", whole.of(0, 3), 25);
        Edges.due("all cells as bits", whole.of(0, 4), Edges.ALL);
        Edges.says("5", "NONE.");
        for (int what : new int[] {-1, 6, 7, Edges.LEAST, Edges.MOST}) {
            Edges.due("of(0, " + what + ")", x.of(0, what), -1);
        }
        FootMaps two = Edges.with(3, 4);
        for (int walker : NO_WALKERS_OF_TWO) {
            for (int what = 0; what < 6; what++) {
                Edges.due("of(" + walker + ", " + what + ")", two.of(walker, what), -1);
            }
        }
        Edges.due("that is no refusal", two.status(), 0);
    }

    private static void sheetCall() {
        Edges.says("6", "What a SHEET has of a CELL.");
        FootMaps x = Edges.with(1, 23);
        for (int cell = 0; cell < 25; cell++) {
            x.cell(cell, 3 - cell % 4, 0);
        }
        x.step(0, 4);
        x.step(1, 2);
        Edges.due("the lowest cell", x.sheet(0, 0), 3);
        Edges.due("a cell of kind 2", x.sheet(0, 1), 2);
        Edges.due("the highest cell", x.sheet(1, 24), 3);
        Edges.due("a cell of kind 0", x.sheet(1, 23), 0);
        Edges.says("6", "NONE (blank).");
        Edges.due("a blank cell", x.sheet(0, 24), -1);
        Edges.due("a cell that only the other one's has", x.sheet(1, 0), -1);
        for (int cell : NO_CELLS) {
            Edges.due("sheet(0, " + cell + ")", x.sheet(0, cell), -1);
        }
        for (int walker : NO_WALKERS_OF_TWO) {
            Edges.due("sheet(" + walker + ", 0)", x.sheet(walker, 0), -1);
        }
    }

    private static void asksCall() {
        Edges.says("7", "Of a WALKER and a WAY 1 .. 4 from where it is what the STEP costs (what 0), whether BARRED (1: 1, 0).");
        FootMaps x = Edges.under("costs kind+4;bars if kind=3", 12, 0);
        x.cell(17, 0, 0);
        x.cell(13, 1, 0);
        x.cell(7, 2, 0);
        x.cell(11, 3, 0);
        for (int way = 1; way <= 4; way++) {
            Edges.due("what way " + way + " costs", x.asks(0, way, 0), way + 3);
            Edges.due("whether barred by way " + way, x.asks(0, way, 1), way == 4 ? 1 : 0);
        }
        Edges.due("it is where it was", x.of(0, 0), 12);
        for (int way : new int[] {0, 5, -1, Edges.LEAST, Edges.MOST}) {
            Edges.due("way " + way, x.asks(0, way, 0), -1);
            Edges.due("way " + way, x.asks(0, way, 1), -1);
        }
        for (int what : new int[] {2, -1, Edges.LEAST, Edges.MOST}) {
            Edges.due("asks(0, 1, " + what + ")", x.asks(0, 1, what), -1);
        }
        for (int walker : NO_WALKERS_OF_TWO) {
            Edges.due("asks(" + walker + ", 1, 0)", x.asks(walker, 1, 0), -1);
        }
        Edges.says("7", "NONE (beyond the edge).");
        int[] beyond = {0, 4, 24, 20};
        int[][] ways = {{3, 4}, {3, 2}, {1, 2}, {1, 4}};
        for (int corner = 0; corner < 4; corner++) {
            FootMaps y = Edges.with(beyond[corner]);
            for (int way = 1; way <= 4; way++) {
                boolean out = way == ways[corner][0] || way == ways[corner][1];
                String asked = "from " + beyond[corner] + " by way " + way;
                Edges.due(asked + " it costs", y.asks(0, way, 0), out ? -1 : 1);
                Edges.due(asked + " whether barred", y.asks(0, way, 1), out ? -1 : 0);
            }
        }
    }

    private static void wantsCall() {
        Edges.says("8", "WANTS of a WALKER, as bits, six at most: what they were.");
        FootMaps x = Edges.with(0, 1);
        Edges.good("six", x, 0, x.wants(1, 63));
        Edges.good("other six", x, 63, x.wants(1, 63 << 19));
        Edges.good("none", x, 63 << 19, x.wants(1, 0));
        Edges.due("the other walker's", x.of(0, 2), 0);
        Edges.says("8", "-1; -2.");
        x.wants(1, 5);
        for (int cells : new int[] {127, 127 << 18, 1 << 25, 1 << 31, -1, Edges.MOST, Edges.ALL}) {
            Edges.refused("wants(1, " + cells + ")", x, -1, x.wants(1, cells));
            Edges.refused("wants(2, " + cells + ")", x, -1, x.wants(2, cells));
        }
        for (int walker : NO_WALKERS_OF_TWO) {
            Edges.refused("wants(" + walker + ", 1)", x, -2, x.wants(walker, 1));
        }
        Edges.due("wants as they were", x.of(1, 2), 5);
    }

    private static void termsCall() {
        Edges.says("9", "A TERM: what it was.");
        FootMaps x = new FootMaps();
        Edges.good("terms(0, 999)", x, 0, x.terms(0, 999));
        Edges.good("terms(1, 10)", x, 1, x.terms(1, 10));
        Edges.good("terms(2, 9)", x, 0, x.terms(2, 9));
        Edges.good("terms(0, 0)", x, 999, x.terms(0, 0));
        Edges.good("terms(1, 0)", x, 10, x.terms(1, 0));
        Edges.good("terms(2, 0)", x, 9, x.terms(2, 0));
        Edges.says("9", "-1.");
        for (int what : new int[] {-1, 3, 4, Edges.LEAST, Edges.MOST}) {
            Edges.refused("terms(" + what + ", 0)", x, -1, x.terms(what, 0));
        }
        int[] tooLarge = {1000, 11, 10};
        for (int what = 0; what < 3; what++) {
            Edges.refused("terms(" + what + ", too large)", x, -1, x.terms(what, tooLarge[what]));
            Edges.refused("terms(" + what + ", -1)", x, -1, x.terms(what, -1));
            Edges.due("as it was", x.count(12 + what), 0);
        }
    }
}
