/** What the document says ahead of the terms, phrase by phrase, on one small land. */
public final class WholeTest {
    private static final int WALL = Edges.bits(2, 7, 12, 17);
    private static final int SEEN_BY_FIRST = Edges.bits(0, 1, 2, 5, 6, 7, 8, 10, 11, 12, 16);
    private static final int SEEN_BY_SECOND = Edges.bits(18, 22, 23, 24);

    public static void main(String[] args) {
        lands();
        sheets();
        laws();
        orders();
        deeds();
        walksOverLand();
        walksByOneself();
        walksOfTwo();
        whatWasGlimpsed();
        sheetsTogether();
        chances();
        undone();
        daysByDraws();
        goneBackTo();
        laterCalls();
        Edges.end();
    }

    /** A wall of kind 3 between left and right, open at 22; from the high cell 6 one sees two far. */
    private static FootMaps walled() {
        FootMaps x = Edges.under("costs 1+kind;sees 2 if height>4;bars if kind=3", 0, 24);
        for (int cell = 0; cell < 25; cell++) {
            if ((WALL >> cell & 1) == 1) {
                x.cell(cell, 3, 0);
            }
        }
        x.cell(6, 0, 5);
        return x;
    }

    /** The same, and the first has come to 6, the second to 23. */
    private static FootMaps walked() {
        FootMaps x = walled();
        Edges.due("step(0, 2)", x.step(0, 2), 1);
        Edges.due("step(0, 1)", x.step(0, 1), 1);
        Edges.due("step(1, 4)", x.step(1, 4), 1);
        return x;
    }

    private static void lands() {
        Edges.says("0", "a land of cells by kinds and heights");
        FootMaps x = walled();
        Edges.due("land(7, 0)", x.land(7, 0), 3);
        Edges.due("land(22, 0)", x.land(22, 0), 0);
        Edges.due("land(6, 1)", x.land(6, 1), 5);
        Edges.due("land(24, 2)", x.land(24, 2), 2);
    }

    private static void sheets() {
        Edges.says("0", "walkers with blank sheets on which comes up what they see where they go");
        FootMaps x = walled();
        Edges.due("of(0, 4)", x.of(0, 4), 0);
        x.step(0, 2);
        Edges.due("of(0, 4) in 1", x.of(0, 4), Edges.bits(0, 1, 2, 6));
        Edges.due("sheet(0, 2)", x.sheet(0, 2), 3);
        x.step(0, 1);
        Edges.due("of(0, 4) in 6", x.of(0, 4), SEEN_BY_FIRST);
        Edges.due("of(1, 4)", x.of(1, 4), 0);
    }

    private static void laws() {
        Edges.says("0", "laws in a language of what a step costs, how far one sees, where one may not go");
        FootMaps x = walked();
        Edges.due("asks(0, 1, 0)", x.asks(0, 1, 0), 1);
        Edges.due("asks(0, 2, 0)", x.asks(0, 2, 0), 4);
        Edges.due("asks(0, 2, 1)", x.asks(0, 2, 1), 1);
        Edges.due("of(0, 5)", x.of(0, 5), 2);
        Edges.due("of(1, 5)", x.of(1, 5), 1);
        Edges.refused("step(0, 2)", x, -3, x.step(0, 2));
    }

    private static void orders() {
        Edges.says("0", "orders in a second language that are run wholly or not at all");
        FootMaps x = walked();
        String ahead = Edges.state(x);
        Edges.refused("orders into the wall", x, -3, Edges.orders(x, "pass;step 0 to 1 times 2;smear 0 of 0;step 0 to 2"));
        Edges.due("stopped()", x.stopped(), 3);
        Edges.same("orders not run", Edges.state(x), ahead);
        Edges.good("orders", x, 4, Edges.orders(x, "pass;step 0 to 1 times 2;smear 0 of 0"));
        Edges.due("of(0, 0)", x.of(0, 0), 16);
        Edges.due("sheet(0, 0)", x.sheet(0, 0), -1);
        Edges.due("count(12)", x.count(12), 1);
    }

    private static void deeds() {
        Edges.says("0", "steps, sheets joined where two meet, smears, minutes");
        FootMaps x = Edges.with(0, 2);
        Edges.good("step(0, 2)", x, 1, x.step(0, 2));
        Edges.refused("join(0, 1) apart", x, -3, x.join(0, 1));
        Edges.good("step(1, 4)", x, 1, x.step(1, 4));
        Edges.good("smear(0, 0)", x, 3, x.smear(0, 0));
        Edges.good("join(0, 1)", x, 1, x.join(0, 1));
        Edges.good("pass()", x, 1, x.pass());
        Edges.due("count(4)", x.count(4), 5);
    }

    private static void walksOverLand() {
        Edges.says("0", "the cheapest way over the land");
        FootMaps x = walled();
        Edges.due("way(0, 4, NONE)", x.way(0, 4, -1), 12);
        Edges.row("way(0, 4)", i -> x.way(0, 4, i), 1, 6, 11, 16, 21, 22, 23, 18, 13, 8, 3, 4);
        Edges.says("0", "where one can come");
        Edges.due("reach(0)", x.reach(0), Edges.ALL & ~WALL);
        Edges.says("0", "a law compared with another one");
        Edges.due("compare(NONE, 0, 4)", x.compare(-1, 0, 4), 4);
        Edges.due("law 1", Edges.law(x, "costs 2"), 1);
        Edges.due("compare(1, 0, 4)", x.compare(1, 0, 4), 8);
        Edges.due("compare(0, 0, 4)", x.compare(0, 0, 4), 12);
    }

    private static void walksByOneself() {
        Edges.says("0", "the cheapest over what a sheet has");
        FootMaps x = walked();
        Edges.due("sure(0, 16, NONE)", x.sure(0, 16, -1), 2);
        Edges.row("sure(0, 16)", i -> x.sure(0, 16, i), 11, 16);
        Edges.due("sure(0, 21, NONE)", x.sure(0, 21, -1), -1);
        Edges.due("way(0, 21, NONE)", x.way(0, 21, -1), 3);
        Edges.says("0", "the cheapest walk by which all that is wanted comes up");
        x.wants(0, Edges.bits(10, 21));
        Edges.due("tour(0, NONE)", x.tour(0, -1), 2);
        Edges.row("tour(0)", i -> x.tour(0, i), 11, 16);
    }

    private static void walksOfTwo() {
        Edges.says("0", "where two meet soonest");
        FootMaps x = walled();
        x.step(0, 2);
        x.step(0, 1);
        Edges.due("meet(0, 1, 0)", x.meet(0, 1, 0), 21);
        Edges.due("meet(0, 1, 1)", x.meet(0, 1, 1), 3);
        Edges.due("meet(1, 0, 0)", x.meet(1, 0, 0), 21);
    }

    private static void whatWasGlimpsed() {
        Edges.says("0", "which yard it can be by what was glimpsed");
        FootMaps x = walled();
        Edges.due("glimpse(2, 3)", x.glimpse(2, 3), 1);
        Edges.due("yard()", x.yard(), Edges.bits(1, 6, 11, 16));
        Edges.says("0", "which way to look next");
        Edges.due("look(0)", x.look(0), 3);
        Edges.due("look(1)", x.look(1), 3);
        Edges.due("glimpse(3, 4)", x.glimpse(3, 4), 2);
        Edges.due("yard() beside the edge", x.yard(), Edges.bits(1));
    }

    private static void sheetsTogether() {
        Edges.says("0", "what on a sheet is no more so");
        FootMaps x = walked();
        Edges.due("stale(0)", x.stale(0), 0);
        x.cell(2, 1, 0);
        x.cell(3, 1, 0);
        Edges.due("stale(0) of another land", x.stale(0), Edges.bits(2));
        Edges.says("0", "twos who would both gain by joining");
        x.wants(0, Edges.bits(22));
        Edges.due("both(NONE), one gains", x.both(-1), 0);
        x.wants(1, Edges.bits(0));
        Edges.due("both(NONE)", x.both(-1), 1);
        Edges.due("both(0)", x.both(0), 1);
        Edges.says("0", "the fewest sheets that have all");
        Edges.due("count(1)", x.count(1), Integer.bitCount(SEEN_BY_FIRST | SEEN_BY_SECOND));
        Edges.due("cover(0)", x.cover(0), 2);
        Edges.due("cover(1)", x.cover(1), 3);
        FootMaps alike = Edges.with(6, 6, 6);
        alike.step(1, 1);
        alike.step(2, 1);
        Edges.due("cover(0) of two alike", alike.cover(0), 1);
        Edges.due("cover(1) of two alike", alike.cover(1), 2);
    }

    private static void chances() {
        Edges.says("0", "how likely so few paces smear");
        FootMaps x = new FootMaps();
        Edges.due("few(1, 2)", x.few(1, 2), 810000000000L);
        Edges.due("few(2, 2)", x.few(2, 2), 990000000000L);
        x.terms(1, 5);
        Edges.due("few(1, 2) at five of ten", x.few(1, 2), 250000000000L);
    }

    private static void undone() {
        Edges.says("0", "steps undone");
        FootMaps x = walled();
        String ahead = Edges.state(x);
        x.step(0, 2);
        Edges.good("undo()", x, 0, x.undo());
        Edges.same("undone", Edges.state(x), ahead);
        Edges.refused("undo() of nothing", x, -3, x.undo());
    }

    private static void daysByDraws() {
        Edges.says("0", "days by draws");
        FootMaps x = Edges.with(12);
        String ahead = Edges.state(x).replaceAll(" \\S+$", "");
        Edges.good("days(0, 1)", x, 1, x.days(0, 1));
        Edges.due("drawn(0, 0)", x.drawn(0, 0), 13);
        Edges.due("drawn(0, 1)", x.drawn(0, 1), Edges.bits(8, 12, 13, 14, 18));
        Edges.same("days on paper", Edges.state(x).replaceAll(" \\S+$", ""), ahead);
    }

    private static void goneBackTo() {
        Edges.says("0", "all gone back to");
        FootMaps x = walled();
        Edges.good("image(0)", x, 0, x.image(0));
        String then = Edges.state(x);
        x.step(0, 2);
        x.cell(24, 2, 9);
        x.wants(1, 3);
        x.glimpse(0, 3);
        x.walker(7, 9);
        x.terms(2, 4);
        x.force(-1);
        Edges.law(x, "bars");
        Edges.good("back(0)", x, 0, x.back(0));
        Edges.same("gone back to", Edges.state(x), then);
    }

    /** Their answers are free, but LANGUAGE.md's rule 7 (no call may ever throw) has no end. */
    private static void laterCalls() {
        Edges.says("0", "what later calls answer is free");
        FootMaps x = walled();
        int calls = 0;
        for (int n = 0; n < 2000; n++) {
            Edges.tape(x, n % 2 == 0 ? "pass;step 0 to 1;step 0 to 3" : "bars if 1/0=1");
            calls += n % 2 == 0 ? (x.orders() < 4 ? 1 : 0) : (x.law() < 6 ? 1 : 0);
            x.days(n, 60);
            x.glimpse(n % 5, n % 5);
        }
        Edges.due("calls behind the 512th that came to an end", calls, 2000);
    }
}
