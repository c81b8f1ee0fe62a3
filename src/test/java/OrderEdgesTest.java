/** Boundary cases of orders (term II), of steps, joins, smears, minutes (term III) and of the promises 15, 17, 19 to 23. */
public final class OrderEdgesTest {
    public static void main(String[] args) {
        orderClauses();
        whatOrdersTake();
        times();
        orderWords();
        partsAside();
        runs();
        asked();
        wordsTold();
        cantBe();
        deedsAheadOfOrders();
        stepping();
        joining();
        smearing();
        passing();
        ordersCall();
        stoppedCall();
        stepCall();
        joinCall();
        smearCall();
        passCall();
        undoCall();
        undoneIsNothingMore();
        Edges.end();
    }

    private static void orderFault(String text, int place) {
        FootMaps x = Edges.with(12, 12);
        Edges.due("orders \"" + text + "\"", Edges.orders(x, text), -6);
        Edges.due("fault of \"" + text + "\"", x.fault(), place);
        Edges.due("stopped by \"" + text + "\"", x.stopped(), -1);
        Edges.due("minutes behind \"" + text + "\"", x.count(12), 0);
    }

    /** How many are run, of two walkers in cell 12. */
    private static void run(String text, int want) {
        FootMaps x = Edges.with(12, 12);
        Edges.due("orders \"" + text + "\"", Edges.orders(x, text), want);
        Edges.due("fault of \"" + text + "\"", x.fault(), -1);
    }

    private static void orderClauses() {
        Edges.says("II", "CLAUSE: (\"step\" SUM \"to\" SUM | \"join\" SUM \"with\" SUM | \"smear\" SUM \"of\" SUM | \"pass\") [\"times\" TIMES] [\"if\" TEST].");
        run("step 0 to 1", 1);
        run("join 0 with 1", 1);
        run("step 0 to 1;smear 12 of 0", 2);
        run("pass", 1);
        run("pass times 2 if 1=1", 2);
        run("step[0]to[1]times 1if 1=1", 1);
        orderFault("step", 4);
        orderFault("step to 1", 5);
        orderFault("step 0", 6);
        orderFault("step 0 to", 9);
        orderFault("step 0 1", 7);
        orderFault("step 0 with 1", 7);
        orderFault("step 0 of 1", 7);
        orderFault("join 0 to 1", 7);
        orderFault("join 0 of 1", 7);
        orderFault("join 0 with", 11);
        orderFault("smear 0 to 1", 8);
        orderFault("smear 0 with 1", 8);
        orderFault("smear 0 of", 10);
        orderFault("pass 1", 5);
        orderFault("pass if", 7);
        orderFault("pass times", 10);
        orderFault("pass if 1=1 times 2", 12);
        orderFault("pass times 2 times 2", 13);
        orderFault("pass if 1=1 if 1=1", 12);
        orderFault("costs 1", 0);
        orderFault("sees 1", 0);
        orderFault("bars", 0);
        orderFault("pass;", 5);
    }

    private static void whatOrdersTake() {
        Edges.says("II", "(a WALKER, a WAY; two WALKERS; a CELL, a WALKER; a MINUTE.)");
        FootMaps x = Edges.with(6, 6);
        Edges.due("walker 0 by way 4", Edges.orders(x, "step 0 to 4"), 1);
        Edges.due("walker 1 by way 4, to the edge", Edges.orders(x, "step 1 to 4"), 1);
        Edges.due("no walker 4", Edges.orders(x, "step 4 to 1"), -3);
        Edges.due("no way 0", Edges.orders(x, "step 1 to 0"), -3);
        Edges.due("beyond the edge", Edges.orders(x, "step 1 to 4"), -3);
        Edges.due("cell 10 of walker 1", Edges.orders(x, "smear 10 of 1"), 1);
        Edges.due("the other one has it", x.sheet(0, 10), 0);
        Edges.due("no walker 10", Edges.orders(x, "smear 1 of 10"), -3);
        Edges.due("no cell 25", Edges.orders(x, "smear 25 of 1"), -3);
        Edges.due("both walkers", Edges.orders(x, "join 1 with 0"), 1);
        Edges.due("it has it again", x.sheet(1, 10), 0);
        Edges.due("no walker 2", Edges.orders(x, "join 1 with 2"), -3);
        Edges.due("no walker below 0", Edges.orders(x, "join 0-1 with 1"), -3);
        Edges.due("a minute", Edges.orders(x, "pass"), 1);
        Edges.due("it has passed", x.count(12), 1);
        x.terms(0, 998);
        Edges.due("two minutes, one too many", Edges.orders(x, "pass times 2"), -3);
        Edges.due("none has passed", x.count(12), 998);
    }

    private static void times() {
        Edges.says("II", "TIMES: a NUMBER 1 .. 20.");
        run("pass times 1", 1);
        run("pass times 20", 20);
        run(Edges.times(11, "pass times 20;") + "pass times 20", 240);
        orderFault("pass times 0", 11);
        orderFault("pass times 21", 11);
        orderFault("pass times 1000", 11);
        orderFault("pass times 4294967297", 11);
        orderFault("pass times [2]", 11);
        orderFault("pass times minute", 11);
        orderFault("pass times -1", 11);
        orderFault("pass times 2+1", 12);
    }

    private static void orderWords() {
        Edges.says("II", "Words: \"minute\" | \"done\" | \"latest\" | \"at\" W | \"mapped\" W | \"kind\" C (W: a NUMBER 0 .. 3, C: 0 .. 24).");
        run("pass if minute=0", 1);
        run("pass if done=0", 1);
        run("pass if latest=0-1", 1);
        run("pass if at 0=12 and at 1=12", 1);
        run("pass if at 3=0-1", 1);
        run("pass if mapped 0=0", 1);
        run("pass if mapped 3=0-1", 1);
        run("pass if kind 0=0", 1);
        run("pass if kind 24=0", 1);
        orderFault("pass if at 4=0", 11);
        orderFault("pass if at 1001=0", 11);
        orderFault("pass if at 4294967296=0", 11);
        orderFault("pass if at=0", 10);
        orderFault("pass if at", 10);
        orderFault("pass if at [0]=0", 11);
        orderFault("pass if at -1=0", 11);
        orderFault("pass if mapped 4=0", 15);
        orderFault("pass if mapped done=0", 15);
        orderFault("pass if mapped", 14);
        orderFault("pass if kind 25=0", 13);
        orderFault("pass if kind=0", 12);
        orderFault("pass if kind [3]=0", 13);
        for (String word : new String[] {"walker", "height", "rise", "known", "pace", "mood", "x",
            "costs", "sees", "bars", "if", "or", "and", "step", "join", "smear", "pass", "to", "with", "of", "times"}) {
            orderFault("pass if " + word + "=0", 8);
        }
        orderFault("pass if minute 0=0", 15);
        FootMaps x = new FootMaps();
        x.cell(24, 3, 0);
        x.cell(0, 2, 0);
        Edges.due("the kinds of the first and last cell", Edges.orders(x, "pass times 20 if kind 24=3 and done<kind 24;pass if kind 0=2"), 4);
    }

    private static void partsAside() {
        Edges.says("II", "W, C, TIMES aside, NUMBERS and words count as PARTS.");
        run("pass times 2 if 0*[at 0" + Edges.times(47, "+at 0") + "]=0", 2);
        run("pass times 2 if at 3" + Edges.times(47, "+at 3") + "=0-48", 2);
        orderFault("pass if at 0" + Edges.times(49, "+at 0") + "=1", 8 + 5 * 50);
        orderFault("pass if at 0" + Edges.times(50, "+at 0") + "=1", 8 + 5 * 50);
        String kinds = "pass if kind 0" + Edges.times(48, "+kind 0");
        run(kinds + "=0", 1);
        orderFault(kinds + "+kind 0=0", kinds.length() + 8);
        String many = Edges.times(10, "pass times 1;") + "pass if 1" + Edges.times(48, "+1");
        run(many + "=49", 11);
        orderFault(many + "=48+1", many.length() + 4);
    }

    private static void runs() {
        Edges.says("II", "Run CLAUSE by CLAUSE, each as often as TIMES tell (once without)");
        FootMaps x = Edges.with(0);
        Edges.due("orders", Edges.orders(x, "step 0 to 1 times 4;step 0 to 2 times 3;step 0 to 3;pass times 2"), 10);
        Edges.due("where it is", x.of(0, 0), 5 * 3 + 3);
        Edges.due("minutes", x.count(12), 2);
        FootMaps y = Edges.with(0);
        Edges.due("the order matters", Edges.orders(y, "step 0 to 3;step 0 to 1"), -3);
        Edges.due("the other order", Edges.orders(y, "step 0 to 1;step 0 to 3"), 2);
        Edges.due("every one of the times can be refused", Edges.orders(y, "step 0 to 1 times 5"), -3);
        Edges.due("four times it can be", Edges.orders(y, "step 0 to 1 times 4"), 4);
    }

    private static void asked() {
        Edges.says("II", "each time its \"if\" is asked (not run, if it is not so or BROKEN), then its SUMS from the left.");
        run("pass times 20 if minute<2", 2);
        run("pass times 20 if minute<1 or minute>1", 1);
        run("pass if 1=2", 0);
        run("pass if 1/0=1", 0);
        run("pass if not 1/0=1;pass", 1);
        run("step 1/0 to 1 if 1=2;pass", 1);
        run("step 9 to 9 if 1/0=1", 0);
        run("step 1/0 to 1", -3);
        run("step 0 to 1/0", -3);
        run("step 0 to 1;smear 12+1000*1000*1000*2*0 of 0", -3);
        run("step 0 to 1;step 0 to at 0-16;step 0 to at 0-19", 3);
        FootMaps x = Edges.with(0);
        Edges.due("sums are asked each time", Edges.orders(x, "step 0 to 1+done%2 times 6"), 6);
        Edges.due("where it is", x.of(0, 0), 18);
    }

    private static void wordsTold() {
        Edges.says("II", "done: how many were run in this TEXT, latest: what the latest step in it told (-1: none)");
        FootMaps x = Edges.under("costs 4", 12, 12);
        Edges.due("done", Edges.orders(x, "pass times 20 if done<3"), 3);
        Edges.due("done in another text", Edges.orders(x, "pass times 20 if done<3"), 3);
        Edges.due("done counts what is run alone", Edges.orders(x, "pass if 1=2;pass if done=0;pass if done=1"), 2);
        Edges.due("latest ahead of a step", Edges.orders(x, "pass if latest=0-1;step 0 to 1;pass if latest=4"), 3);
        Edges.due("latest behind others", Edges.orders(x, "step 0 to 3;join 0 with 1;smear 12 of 0;pass;pass if latest=4"), 5);
        Edges.due("latest of another text", Edges.orders(x, "pass if latest=4"), 0);
        Edges.law(x, "costs kind+2");
        x.force(1);
        x.cell(17, 3, 0);
        Edges.due("the latest of two", Edges.orders(x, "step 0 to 1;step 0 to 3;pass if latest=2"), 3);
        Edges.says("II", "at: its CELL, mapped: how many CELLS its SHEET has; -1 without such a WALKER.");
        FootMaps y = Edges.with(24, 0);
        Edges.due("at", Edges.orders(y, "pass if at 0=24;pass if at 1=0;step 0 to 3;pass if at 0=19"), 4);
        Edges.due("mapped", Edges.orders(y, "pass if mapped 0=4;pass if mapped 1=0;smear 19 of 0;pass if mapped 0=3"), 4);
        Edges.due("without", Edges.orders(y, "pass if at 2=0-1 and at 3=0-1 and mapped 2=0-1 and mapped 3=0-1"), 1);
        FootMaps none = new FootMaps();
        Edges.due("without any", Edges.orders(none, "pass if at 0=0-1 and mapped 0=0-1"), 1);
        FootMaps gone = new FootMaps();
        gone.image(0);
        gone.walker(7, 1);
        gone.back(0);
        Edges.due("without one that was there ahead of back()", Edges.orders(gone, "pass if at 0=0-1 and mapped 0=0-1"), 1);
    }

    private static void cantBe() {
        Edges.says("II", "One that can't be (a BROKEN SUM, as step(), join(), smear(), pass() are REFUSED) ends it: all is as it was ahead of it.");
        String[] ends = {
            "step 1/0 to 1", "step 0 to 1/0", "join 1/0 with 1", "join 0 with 1/0", "smear 1/0 of 0", "smear 13 of 1/0",
            "step 3 to 1", "step 0-1 to 1", "step 0 to 0", "step 0 to 5", "step 0 to 1 times 3", "step 2 to 1", "step 1 to 2",
            "join 0 with 0", "join 0 with 3", "join 3 with 0", "join 0 with 2", "smear 25 of 0", "smear 0-1 of 0", "smear 13 of 3", "smear 0 of 0",
            "step 1000*1000*1000 to 1", "step 0 to 1000*1000*1000", "pass times 20"};
        for (String order : ends) {
            FootMaps x = Edges.under("bars if kind=3", 12, 12, 24);
            x.terms(0, 980);
            x.cell(8, 2, 2);
            x.step(0, 2);
            x.step(1, 2);
            x.pass();
            x.cell(8, 1, 0);
            x.cell(14, 3, 0);
            x.wants(0, 5);
            x.glimpse(0, 0);
            String ahead = Edges.state(x);
            Edges.refused("orders with " + order, x, -3, Edges.orders(x, "step 0 to 3;smear 3 of 0;step 0 to 1;join 0 with 1;pass;" + order + ";step 1 to 3"));
            Edges.due("it is stopped at", x.stopped(), 5);
            Edges.same("all is as it was", Edges.state(x), ahead);
            Edges.due("undo()", x.undo(), 3);
            Edges.due("undo() once more", x.undo(), 0);
            Edges.due("who is undone", x.of(1, 0), 12);
        }
    }

    /** Sixteen deeds of all kinds, then orders with more than sixteen that are taken back. */
    private static void deedsAheadOfOrders() {
        Edges.says("II", "all is as it was ahead of it.");
        FootMaps x = Edges.with(6, 8);
        layKinds(x, 0);
        String[] deeds = {"step 0 to 2", "step 1 to 4", "join 1 with 0", "smear 7 of 1", "pass", "step 0 to 1", "step 0 to 3", "join 0 with 1",
            "join 1 with 0", "smear 12 of 0", "smear 8 of 1", "pass", "step 0 to 3", "step 1 to 3", "pass", "smear 3 of 1"};
        String[] ahead = new String[deeds.length];
        for (int i = 0; i < deeds.length; i++) {
            ahead[i] = seen(x);
            Edges.due(deeds[i], Edges.orders(x, deeds[i]), 1);
        }
        Edges.due("sixteen can be undone", x.count(4), 16);
        layKinds(x, 1);
        String last = seen(x);
        Edges.due("orders", Edges.orders(x, "step 0 to 1;step 0 to 3;step 1 to 1;step 1 to 3;join 0 with 1 times 20;step 0 to 0"), -3);
        Edges.same("behind the orders", seen(x), last);
        for (int i = deeds.length - 1; i >= 0; i--) {
            x.undo();
            Edges.same("when \"" + deeds[i] + "\" is undone", seen(x), ahead[i]);
        }
        Edges.due("nothing more", x.undo(), -3);
    }

    private static void layKinds(FootMaps x, int more) {
        int[] row = new int[75];
        for (int cell = 0; cell < 25; cell++) {
            row[3 * cell] = cell;
            row[3 * cell + 1] = (cell + more) % 4;
        }
        Edges.tape(x, row);
        x.row();
    }

    private static String seen(FootMaps x) {
        StringBuilder seen = new StringBuilder().append(x.count(12));
        for (int walker = 0; walker < 2; walker++) {
            seen.append(' ').append(x.of(walker, 0)).append(' ').append(x.of(walker, 4));
            seen.append(' ').append(x.sheet(walker, 7)).append(x.sheet(walker, 2));
        }
        return seen.toString();
    }

    private static void stepping() {
        Edges.says("III", "To STEP a WAY 1 .. 4 within the edge, not BARRED: the WALKER is there; on its SHEET comes up what it SEES from there, as it is now (also where there was another KIND).");
        FootMaps x = Edges.with(0);
        Edges.due("beyond the lower edge", x.step(0, 3), -3);
        Edges.due("beyond the left edge", x.step(0, 4), -3);
        Edges.due("its sheet is blank", x.of(0, 4), 0);
        x.cell(1, 3, 0);
        Edges.due("to the right", x.step(0, 2), 1);
        Edges.due("it is there", x.of(0, 0), 1);
        Edges.due("what it sees from there, not from where it was", x.of(0, 4), Edges.bits(0, 1, 2, 6));
        Edges.due("as it is", x.sheet(0, 1), 3);
        x.cell(1, 1, 0);
        x.cell(2, 2, 0);
        x.step(0, 1);
        Edges.due("another kind now, which it sees", x.sheet(0, 1), 1);
        Edges.due("another kind now, which it does not see", x.sheet(0, 2), 0);
        for (int was = 0; was < 4; was++) {
            for (int is = 0; is < 4; is++) {
                FootMaps kinds = Edges.with(12);
                kinds.cell(12, was, 0);
                kinds.step(0, 2);
                kinds.cell(12, is, 0);
                kinds.step(0, 1);
                Edges.due("kind " + was + ", not seen again", kinds.sheet(0, 12), was);
                kinds.step(0, 3);
                Edges.due("kind " + is + " where there was kind " + was, kinds.sheet(0, 12), is);
            }
        }
        FootMaps y = Edges.under("sees 0;bars if height=9", 23);
        y.cell(24, 0, 9);
        Edges.due("barred", y.step(0, 2), -3);
        y.cell(24, 0, 8);
        Edges.due("not barred", y.step(0, 2), 1);
        Edges.due("beyond the right edge", y.step(0, 2), -3);
        Edges.due("beyond the upper edge", y.step(0, 1), -3);
        Edges.due("its own cell alone", y.of(0, 4), 1 << 24);
        FootMaps z = Edges.under("costs 9-known*6;sees 1+known*2", 12);
        Edges.due("it is asked by the sheet ahead of the step", z.step(0, 2), 9);
        Edges.due("seen by the sheet ahead of the step", z.of(0, 3), 5);
        Edges.due("back to what it knows", z.step(0, 4), 3);
        Edges.due("seen from what it knows", z.of(0, 3), 21);
    }

    private static void joining() {
        Edges.says("III", "To JOIN: of two in one CELL each SHEET gets what it has not from the other one.");
        FootMaps x = Edges.with(6, 8, 18);
        x.cell(12, 1, 0);
        x.step(0, 2);
        x.cell(12, 3, 0);
        x.cell(8, 2, 0);
        x.step(1, 4);
        x.cell(6, 1, 0);
        x.cell(8, 0, 0);
        x.smear(8, 0);
        x.smear(6, 1);
        Edges.due("a join", x.join(0, 1), 2);
        Edges.due("each keeps what it has", x.sheet(0, 12), 1);
        Edges.due("each keeps what it has", x.sheet(1, 12), 3);
        Edges.due("what the other one's sheet has, not what is there now", x.sheet(0, 8), 2);
        Edges.due("what the other one's sheet has, not what is there now", x.sheet(1, 6), 0);
        Edges.due("both have as many", x.of(0, 4), x.of(1, 4));
        Edges.due("nothing more to get", x.join(1, 0), 0);
        Edges.due("in two cells", x.join(0, 2), -3);
        Edges.due("a third one gets nothing", x.of(2, 3), 0);
        FootMaps blank = Edges.with(3, 3);
        Edges.due("two blank sheets", blank.join(0, 1), 0);
        FootMaps whole = Edges.under("sees 3", 11, 12);
        whole.step(0, 2);
        Edges.due("a full sheet and a blank one", whole.join(1, 0), 21);
        Edges.due("what the blank one has", whole.of(1, 3), 21);
    }

    private static void smearing() {
        Edges.says("III", "To SMEAR: a CELL on a SHEET is blank.");
        FootMaps x = Edges.with(0, 23);
        x.cell(0, 3, 0);
        x.cell(24, 3, 0);
        x.step(0, 2);
        x.step(1, 2);
        Edges.due("the lowest cell", x.smear(0, 0), 3);
        Edges.due("it is blank", x.sheet(0, 0), -1);
        Edges.due("the land is as it was", x.land(0, 0), 3);
        Edges.due("the highest cell", x.smear(24, 1), 2);
        Edges.due("it is blank", x.sheet(1, 24), -1);
        Edges.due("a blank cell", x.smear(24, 1), -3);
        Edges.due("the other one's sheet", x.of(0, 4), Edges.bits(1, 2, 6));
        x.cell(0, 1, 0);
        x.step(0, 4);
        Edges.due("it comes up again, as it is now", x.sheet(0, 0), 1);
    }

    private static void passing() {
        Edges.says("III", "A MINUTE passes (MINUTE below 999).");
        FootMaps x = new FootMaps();
        Edges.due("the first", x.pass(), 1);
        x.terms(0, 997);
        Edges.due("to 998", x.pass(), 998);
        Edges.due("to 999", x.pass(), 999);
        Edges.due("beyond 999", x.pass(), -3);
        Edges.due("it is 999", x.count(12), 999);
        x.terms(0, 999);
        Edges.due("beyond 999", x.pass(), -3);
    }

    private static void ordersCall() {
        Edges.says("15", "ORDERS, the TAPE is empty then: how many were run.");
        FootMaps x = Edges.with(12);
        Edges.tape(x, "pass times 20;pass times 20");
        Edges.good("forty", x, 40, x.orders());
        Edges.due("bytes", x.count(5), 0);
        Edges.good("none", x, 0, Edges.orders(x, "pass times 20 if 1=2"));
        Edges.says("15", "-3 one can't be");
        Edges.refused("one that can't be", x, -3, Edges.orders(x, "pass;step 0 to 5"));
        Edges.due("bytes", x.count(5), 0);
        Edges.due("minutes", x.count(12), 40);
        Edges.refused("at the last time", x, -3, Edges.orders(x, "step 0 to 1 times 3"));
        Edges.due("where it is", x.of(0, 0), 12);
        Edges.due("counted", x.count(8), 2);
        Edges.due("the orders' own refusal is the only one that is counted", x.count(6), 0);
        Edges.says("15", "-6 (as for law()).");
        Edges.refused("an empty tape", x, -6, x.orders());
        Edges.due("its fault", x.fault(), 0);
        Edges.refused("blanks alone", x, -6, Edges.orders(x, "   "));
        Edges.due("their fault", x.fault(), 3);
        Edges.refused("a fault behind a good clause", x, -6, Edges.orders(x, "pass;passs"));
        Edges.due("its fault", x.fault(), 5);
        Edges.due("bytes", x.count(5), 0);
        Edges.due("minutes", x.count(12), 40);
    }

    private static void stoppedCall() {
        Edges.says("17", "Which CLAUSE of the latest orders() could not be.");
        FootMaps x = Edges.with(12);
        Edges.due("ahead of any", x.stopped(), -1);
        Edges.orders(x, "step 0 to 0");
        Edges.due("the first", x.stopped(), 0);
        Edges.orders(x, "pass times 20;pass if 1=2;step 0 to 1 times 3;step 0 to 0");
        Edges.due("the third, behind twenty", x.stopped(), 2);
        Edges.orders(x, Edges.times(11, "pass;") + "step 0 to 0");
        Edges.due("the twelfth", x.stopped(), 11);
        x.step(0, 0);
        x.pass();
        Edges.due("behind other calls", x.stopped(), 11);
        Edges.law(x, "x");
        Edges.due("behind a law", x.stopped(), 11);
        x.image(0);
        x.back(0);
        Edges.due("behind back()", x.stopped(), 11);
        Edges.says("17", "NONE.");
        Edges.orders(x, "pass");
        Edges.due("behind orders that were run", x.stopped(), -1);
        Edges.orders(x, "step 0 to 0");
        Edges.orders(x, "pass x");
        Edges.due("behind orders that could not be read", x.stopped(), -1);
        Edges.orders(x, "step 0 to 0");
        x.orders();
        Edges.due("behind an empty tape", x.stopped(), -1);
    }

    private static void stepCall() {
        Edges.says("19", "To STEP: what it costs.");
        FootMaps x = Edges.under("costs rise*3", 12);
        x.cell(13, 0, 3);
        x.cell(14, 0, 1);
        Edges.good("the most", x, 9, x.step(0, 2));
        Edges.good("the least", x, 1, x.step(0, 2));
        Edges.says("19", "-1 (no such WAY); -2; -3.");
        String ahead = Edges.state(x);
        for (int way : new int[] {0, 5, -1, Edges.LEAST, Edges.MOST}) {
            Edges.refused("way " + way, x, -1, x.step(0, way));
            Edges.refused("way " + way + " of nobody", x, -1, x.step(1, way));
        }
        for (int walker : new int[] {1, 2, 3, 4, -1, Edges.LEAST, Edges.MOST}) {
            Edges.refused("walker " + walker, x, -2, x.step(walker, 1));
        }
        Edges.refused("beyond the edge", x, -3, x.step(0, 2));
        Edges.same("nothing is changed", Edges.state(x), ahead);
        FootMaps y = Edges.under("bars", 12);
        Edges.refused("barred", y, -3, y.step(0, 1));
        Edges.due("nothing to undo", y.count(4), 0);
    }

    private static void joinCall() {
        Edges.says("20", "To JOIN: how many CELLS came up on both SHEETS together.");
        FootMaps x = Edges.with(6, 8, 0, 7);
        x.step(0, 2);
        x.step(1, 4);
        x.smear(2, 0);
        x.smear(6, 1);
        x.smear(8, 1);
        Edges.good("one on the one, two on the other", x, 3, x.join(1, 0));
        Edges.good("none", x, 0, x.join(0, 1));
        Edges.good("the last walker", x, 5, x.join(3, 0));
        Edges.says("20", "-1 (itself); -2; -3.");
        String ahead = Edges.state(x);
        for (int walker : new int[] {0, 3, 4, -1, Edges.LEAST, Edges.MOST}) {
            Edges.refused("join(" + walker + ", itself)", x, -1, x.join(walker, walker));
        }
        for (int walker : new int[] {4, -1, Edges.LEAST, Edges.MOST}) {
            Edges.refused("join(0, " + walker + ")", x, -2, x.join(0, walker));
            Edges.refused("join(" + walker + ", 0)", x, -2, x.join(walker, 0));
        }
        Edges.refused("in two cells", x, -3, x.join(0, 2));
        Edges.refused("in two cells", x, -3, x.join(2, 0));
        Edges.same("nothing is changed", Edges.state(x), ahead);
    }

    private static void smearCall() {
        Edges.says("21", "To SMEAR: how many CELLS the SHEET has then.");
        FootMaps x = Edges.with(12, 12);
        x.step(0, 1);
        int[] seen = {22, 18, 17, 16, 12};
        for (int i = 0; i < seen.length; i++) {
            Edges.good("smear(" + seen[i] + ", 0)", x, 4 - i, x.smear(seen[i], 0));
        }
        Edges.says("21", "-1; -2; -3.");
        x.step(0, 3);
        String ahead = Edges.state(x);
        for (int cell : new int[] {-1, 25, Edges.LEAST, Edges.MOST}) {
            Edges.refused("smear(" + cell + ", 0)", x, -1, x.smear(cell, 0));
            Edges.refused("smear(" + cell + ", 9)", x, -1, x.smear(cell, 9));
        }
        for (int walker : new int[] {2, -1, Edges.LEAST, Edges.MOST}) {
            Edges.refused("smear(12, " + walker + ")", x, -2, x.smear(12, walker));
        }
        Edges.refused("a blank cell", x, -3, x.smear(0, 0));
        Edges.refused("a blank sheet", x, -3, x.smear(12, 1));
        Edges.same("nothing is changed", Edges.state(x), ahead);
    }

    private static void passCall() {
        Edges.says("22", "A MINUTE: its number.");
        FootMaps x = new FootMaps();
        Edges.good("the first", x, 1, x.pass());
        x.terms(0, 998);
        Edges.good("the last", x, 999, x.pass());
        Edges.says("22", "-3.");
        Edges.refused("behind the last", x, -3, x.pass());
        Edges.due("it is 999", x.count(12), 999);
        Edges.due("one can be undone", x.count(4), 1);
    }

    private static void undoCall() {
        Edges.says("23", "The latest step(), join(), smear(), pass() (by ORDERS, too; 16 are kept) is undone: 0 .. 3.");
        FootMaps x = Edges.with(6, 7);
        x.cell(7, 2, 0);
        x.step(0, 2);
        x.cell(7, 3, 0);
        x.step(0, 2);
        x.step(0, 4);
        Edges.due("another kind came up", x.sheet(0, 7), 3);
        x.join(0, 1);
        x.smear(7, 1);
        x.pass();
        Edges.due("six can be", x.count(4), 6);
        Edges.good("a minute", x, 3, x.undo());
        Edges.due("the minute", x.count(12), 0);
        Edges.good("a smear", x, 2, x.undo());
        Edges.due("what was smeared", x.sheet(1, 7), 3);
        Edges.good("a join", x, 1, x.undo());
        Edges.due("a sheet is blank again", x.of(1, 4), 0);
        Edges.good("a step", x, 0, x.undo());
        Edges.due("where it is", x.of(0, 0), 8);
        Edges.good("a step", x, 0, x.undo());
        Edges.due("the kind that it had, not what it has", x.sheet(0, 7), 2);
        Edges.good("a step", x, 0, x.undo());
        Edges.due("the sheet is blank", x.of(0, 4), 0);
        Edges.due("the land is not undone", x.land(7, 0), 3);
        FootMaps many = new FootMaps();
        for (int n = 1; n <= 17; n++) {
            many.pass();
            Edges.due("how many can be undone", many.count(4), Math.min(n, 16));
        }
        for (int n = 1; n <= 16; n++) {
            Edges.good("undo " + n, many, 3, many.undo());
            Edges.due("the minute", many.count(12), 17 - n);
        }
        Edges.refused("the seventeenth", many, -3, many.undo());
        FootMaps ordered = Edges.with(6, 6);
        ordered.pass();
        Edges.orders(ordered, "step 0 to 1 times 3;step 0 to 3 times 3;step 0 to 1;step 0 to 3;join 0 with 1 times 5;smear 6 of 1;pass times 2");
        Edges.due("sixteen by orders", ordered.count(4), 16);
        for (int deed : new int[] {3, 3, 2, 1, 1, 1, 1, 1, 0, 0, 0, 0, 0, 0, 0, 0}) {
            Edges.good("by orders", ordered, deed, ordered.undo());
        }
        Edges.refused("the one ahead of the orders is not kept", ordered, -3, ordered.undo());
        Edges.due("the minute", ordered.count(12), 1);
        Edges.due("where it is", ordered.of(0, 0), 6);
        Edges.due("its sheet", ordered.of(0, 4), 0);
        FootMaps joined = Edges.with(6, 8);
        for (int cell = 0; cell < 25; cell++) {
            joined.cell(cell, 3 - cell % 3, 0);
        }
        joined.step(0, 2);
        joined.step(1, 4);
        joined.smear(8, 0);
        joined.smear(12, 0);
        joined.smear(6, 1);
        joined.join(0, 1);
        Edges.good("a join of two sheets", joined, 1, joined.undo());
        Edges.due("the one's cells", joined.of(0, 4), Edges.bits(2, 6, 7));
        Edges.due("the other one's cells", joined.of(1, 4), Edges.bits(2, 7, 8, 12));
        Edges.due("both as they were", joined.stale(0) | joined.stale(1), 0);
        joined.join(1, 0);
        joined.undo();
        Edges.due("the one's cells", joined.of(0, 4), Edges.bits(2, 6, 7));
        Edges.due("the other one's cells", joined.of(1, 4), Edges.bits(2, 7, 8, 12));
        Edges.due("both as they were", joined.stale(0) | joined.stale(1), 0);
        FootMaps wide = Edges.under("sees 3", 11, 12);
        wide.step(0, 2);
        wide.join(0, 1);
        wide.undo();
        Edges.due("all that came up by a join", wide.of(1, 4), 0);
        wide.undo();
        Edges.due("all that came up by a step", wide.of(0, 4), 0);
    }

    private static void undoneIsNothingMore() {
        Edges.says("23", "-3 there is none (nothing that was ahead of a walker(), terms() that was not REFUSED can be undone).");
        FootMaps x = new FootMaps();
        Edges.refused("on a new object", x, -3, x.undo());
        x.pass();
        x.undo();
        Edges.refused("what is undone is not undone again", x, -3, x.undo());
        x.pass();
        x.walker(12, 1);
        Edges.due("behind a walker", x.count(4), 0);
        Edges.refused("behind a walker", x, -3, x.undo());
        x.pass();
        x.step(0, 1);
        x.walker(25, 1);
        x.walker(0, 0);
        x.terms(0, 1000);
        x.terms(3, 0);
        Edges.due("behind walkers and terms that were refused", x.count(4), 2);
        x.cell(3, 3, 3);
        x.wants(0, 7);
        x.glimpse(0, 0);
        x.forget();
        x.image(0);
        x.days(0, 60);
        Edges.law(x, "bars");
        x.force(0);
        x.force(-1);
        Edges.tape(x, 1, 1, 1);
        x.row();
        Edges.due("behind other calls", x.count(4), 2);
        Edges.good("the step", x, 0, x.undo());
        Edges.due("where it is", x.of(0, 0), 12);
        x.terms(2, 0);
        Edges.due("behind terms, though the mood is as it was", x.count(4), 0);
        Edges.refused("behind terms", x, -3, x.undo());
        Edges.due("the minute is not undone", x.count(12), 2);
        x.walker(0, 1);
        x.walker(0, 1);
        x.walker(0, 1);
        x.pass();
        x.walker(0, 1);
        Edges.due("behind a fifth walker, who was refused", x.count(4), 1);
        Edges.good("the minute", x, 3, x.undo());
    }
}
