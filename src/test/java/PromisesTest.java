import java.nio.charset.StandardCharsets;
import java.util.function.IntUnaryOperator;

/** The promises one by one: ordinary inputs, the edges that the document names, wrong inputs. */
public final class PromisesTest {
    private static final int ALL = (1 << 25) - 1;
    private static int checks = 0;
    private static int wrong = 0;
    private static String promise = "";

    private static void due(String what, long got, long want) {
        checks++;
        if (got != want) {
            wrong++;
            System.out.println(promise + ": " + what + " answered " + got + ", due is " + want);
        }
    }

    private static void row(String what, IntUnaryOperator call, int... cells) {
        for (int i = 0; i < cells.length; i++) {
            due(what + " at " + i, call.applyAsInt(i), cells[i]);
        }
        due(what + " behind its end", call.applyAsInt(cells.length), -1);
        due(what + " at -2", call.applyAsInt(-2), -1);
        due(what + " at the greatest int", call.applyAsInt(Integer.MAX_VALUE), -1);
        due(what + " at the least int", call.applyAsInt(Integer.MIN_VALUE), -1);
    }

    private static void tape(FootMaps x, String text) {
        x.end(0);
        byte[] bytes = text.getBytes(StandardCharsets.ISO_8859_1);
        for (int at = 0; at < bytes.length; at += 20) {
            int[] n = new int[5];
            for (int i = at; i < Math.min(at + 20, bytes.length); i++) {
                n[(i - at) / 4] |= (bytes[i] & 255) << 24 - 8 * ((i - at) % 4);
            }
            x.feed(n[0], n[1], n[2], n[3], n[4]);
        }
        x.end(bytes.length);
    }

    private static int law(FootMaps x, String text) {
        tape(x, text);
        return x.law();
    }

    private static int orders(FootMaps x, String text) {
        tape(x, text);
        return x.orders();
    }

    /** A land with a law in force. */
    private static FootMaps under(String law) {
        FootMaps x = new FootMaps();
        due("law " + law, law(x, law), 0);
        x.force(0);
        return x;
    }

    private static void lawFault(String text, int place) {
        FootMaps x = new FootMaps();
        due("law \"" + text + "\"", law(x, text), place == -1 ? 0 : -6);
        due("fault of \"" + text + "\"", x.fault(), place);
        due("laws behind \"" + text + "\"", x.count(3), place == -1 ? 1 : 0);
        due("tape behind \"" + text + "\"", x.count(5), 0);
    }

    private static void orderFault(String text, int place) {
        FootMaps x = new FootMaps();
        due("orders \"" + text + "\"", orders(x, text), -6);
        due("fault of \"" + text + "\"", x.fault(), place);
        due("stopped by \"" + text + "\"", x.stopped(), -1);
    }

    /** What a step right from cell 6, kind 2, height 3, to cell 7, kind 1, height 5, costs by a law. */
    private static void costs(String law, int want) {
        FootMaps x = under(law);
        x.walker(0, 1);
        x.walker(6, 7);
        x.cell(6, 2, 3);
        x.cell(7, 1, 5);
        x.terms(0, 40);
        x.terms(2, 8);
        due(law, x.asks(1, 2, 0), want);
    }

    public static void main(String[] args) {
        promise = "1";
        newObject();
        promise = "2, 3";
        cells();
        promise = "4, 5";
        walkers();
        promise = "6, 19";
        sheetsAndSteps();
        promise = "7";
        asking();
        promise = "8, 9";
        wantsAndTerms();
        promise = "10, 11";
        tapes();
        promise = "12, 13";
        rows();
        promise = "14, 16";
        lawTexts();
        lawValues();
        promise = "15, 16, 17";
        orderTexts();
        orderRuns();
        promise = "18";
        forces();
        promise = "20";
        joins();
        promise = "21, 22";
        smearsAndMinutes();
        promise = "23";
        undoing();
        promise = "24, 25";
        ways();
        promise = "26";
        tours();
        promise = "27";
        meetings();
        promise = "28, 29";
        staleAndBoth();
        promise = "30 to 33";
        yards();
        promise = "34, 35";
        reachAndCover();
        promise = "36";
        chances();
        promise = "37";
        comparing();
        promise = "38, 39";
        drawnDays();
        promise = "40, 41";
        images();
        promise = "42, 43";
        counts();
        System.out.println(checks + " checks of promises, " + wrong + " wrong");
        if (wrong > 0) {
            System.exit(1);
        }
    }

    private static void newObject() {
        FootMaps x = new FootMaps();
        for (int c = 0; c < 25; c++) {
            due("kind", x.land(c, 0), 0);
            due("height", x.land(c, 1), 0);
            due("who", x.land(c, 2), 0);
        }
        int[] counts = {0, 0, 0, 0, 0, 0, 0, 0, 0, 0, 0, -1, 0, 1, 0};
        for (int what = 0; what < counts.length; what++) {
            due("count(" + what + ")", x.count(what), counts[what]);
        }
        due("status", x.status(), 0);
        due("fault", x.fault(), -1);
        due("stopped", x.stopped(), -1);
        due("blots", x.blots(), 0);
        due("of", x.of(0, 0), -1);
        due("drawn", x.drawn(0, 0), -1);
        due("back", x.back(0), -2);
        due("NONE", FootMaps.NONE, -1);
    }

    private static void cells() {
        FootMaps x = new FootMaps();
        due("cell", x.cell(0, 3, 9), 0);
        due("cell", x.cell(0, 1, 2), 3);
        due("cell", x.cell(24, 2, 0), 0);
        due("kind", x.land(0, 0), 1);
        due("height", x.land(0, 1), 2);
        due("kind", x.land(24, 0), 2);
        int[][] bad = {{-1, 0, 0}, {25, 0, 0}, {0, -1, 0}, {0, 4, 0}, {0, 0, -1}, {0, 0, 10}};
        for (int[] b : bad) {
            due("cell", x.cell(b[0], b[1], b[2]), -1);
            due("status", x.status(), -1);
        }
        due("count", x.count(6), 6);
        due("kind as it was", x.land(0, 0), 1);
        due("height as it was", x.land(0, 1), 2);
        due("land", x.land(-1, 0), -1);
        due("land", x.land(25, 0), -1);
        due("land", x.land(0, 3), -1);
        due("land", x.land(0, -1), -1);
        x.walker(7, 1);
        x.walker(8, 1);
        x.walker(7, 1);
        due("who", x.land(7, 2), 5);
        due("who", x.land(8, 2), 2);
        due("who", x.land(9, 2), 0);
        due("land is not refused", x.count(6), 6);
    }

    private static void walkers() {
        FootMaps x = new FootMaps();
        due("walker", x.walker(-1, 1), -1);
        due("walker", x.walker(25, 1), -1);
        due("walker", x.walker(0, 0), -1);
        due("walker", x.walker(0, 10), -1);
        due("walker", x.walker(0, 1), 0);
        due("walker", x.walker(24, 9), 1);
        due("walker", x.walker(12, 5), 2);
        due("walker", x.walker(12, 5), 3);
        due("a fifth", x.walker(0, 1), -5);
        due("status", x.status(), -5);
        due("a fifth that can't be", x.walker(25, 1), -1);
        due("walkers", x.count(0), 4);
        due("cell", x.of(1, 0), 24);
        due("pace", x.of(1, 1), 9);
        due("wants", x.of(1, 2), 0);
        due("how many", x.of(1, 3), 0);
        due("which", x.of(1, 4), 0);
        due("how far", x.of(1, 5), 1);
        due("of", x.of(1, 6), -1);
        due("of", x.of(1, -1), -1);
        due("of", x.of(4, 0), -1);
        due("of", x.of(-1, 0), -1);
        x.wants(1, 3);
        due("wants", x.of(1, 2), 3);

        FootMaps y = under("sees kind + 1 if known = 0; sees 0 if known = 1 and rise = 0");
        y.walker(0, 2);
        y.cell(0, 1, 0);
        due("sees", y.of(0, 5), 2);
        y.cell(0, 3, 0);
        due("sees three at most", y.of(0, 5), 3);
        y.step(0, 1);
        due("one far, for the cell was not known", y.of(0, 4), 1 | 1 << 5 | 1 << 6 | 1 << 10);
        due("sees none, for it is known", y.of(0, 5), 0);
        y.step(0, 3);
        due("came to a known one", y.of(0, 4), 1 | 1 << 5 | 1 << 6 | 1 << 10);
        FootMaps z = under("sees 0 - 5");
        z.walker(0, 2);
        due("sees none at least", z.of(0, 5), 0);
        z.step(0, 2);
        due("its own cell alone", z.of(0, 4), 2);
    }

    private static void sheetsAndSteps() {
        FootMaps x = new FootMaps();
        x.walker(12, 1);
        x.cell(17, 3, 0);
        x.cell(22, 2, 0);
        due("blank", x.sheet(0, 12), -1);
        due("up", x.step(0, 1), 1);
        due("where", x.of(0, 0), 17);
        due("seen", x.of(0, 4), 1 << 12 | 1 << 16 | 1 << 17 | 1 << 18 | 1 << 22);
        due("kind", x.sheet(0, 17), 3);
        due("kind", x.sheet(0, 22), 2);
        due("kind", x.sheet(0, 12), 0);
        due("blank", x.sheet(0, 13), -1);
        due("sheet", x.sheet(1, 0), -1);
        due("sheet", x.sheet(-1, 0), -1);
        due("sheet", x.sheet(0, -1), -1);
        due("sheet", x.sheet(0, 25), -1);
        x.cell(22, 1, 0);
        due("as it came up", x.sheet(0, 22), 2);
        due("up", x.step(0, 1), 1);
        due("as it is now", x.sheet(0, 22), 1);
        due("beyond the edge", x.step(0, 1), -3);
        due("right", x.step(0, 2), 1);
        due("where", x.of(0, 0), 23);
        due("down", x.step(0, 3), 1);
        due("where", x.of(0, 0), 18);
        due("left", x.step(0, 4), 1);
        due("where", x.of(0, 0), 17);
        int[] noWays = {-1, 0, 5, Integer.MAX_VALUE, Integer.MIN_VALUE};
        for (int way : noWays) {
            due("no such way", x.step(0, way), -1);
            due("no such way ahead of no such walker", x.step(1, way), -1);
        }
        due("no such walker", x.step(1, 1), -2);
        due("no such walker", x.step(-1, 1), -2);
        due("still there", x.of(0, 0), 17);
        due("edge left", edge(5, 4), -3);
        due("edge right", edge(9, 2), -3);
        due("edge down", edge(3, 3), -3);
        FootMaps y = under("bars if kind = 1; costs height * 2");
        y.walker(0, 1);
        y.cell(1, 1, 0);
        y.cell(5, 0, 3);
        due("barred", y.step(0, 2), -3);
        due("status", y.status(), -3);
        due("cost", y.step(0, 1), 6);
        due("status", y.status(), 0);
    }

    private static int edge(int cell, int way) {
        FootMaps x = new FootMaps();
        x.walker(cell, 1);
        return x.step(0, way);
    }

    private static void asking() {
        FootMaps x = under("costs rise + 3; bars if height > 5");
        x.walker(6, 1);
        x.cell(6, 0, 1);
        x.cell(7, 0, 6);
        x.cell(11, 0, 0);
        due("cost of a barred step", x.asks(0, 2, 0), 8);
        due("barred", x.asks(0, 2, 1), 1);
        due("cost", x.asks(0, 1, 0), 2);
        due("not barred", x.asks(0, 1, 1), 0);
        due("asks", x.asks(0, 1, 2), -1);
        due("asks", x.asks(0, 1, -1), -1);
        due("asks", x.asks(0, 0, 0), -1);
        due("asks", x.asks(0, 5, 0), -1);
        due("asks", x.asks(0, -1, 0), -1);
        due("asks", x.asks(1, 1, 0), -1);
        due("asks", x.asks(-1, 1, 0), -1);
        x.walker(0, 1);
        due("beyond the edge", x.asks(1, 3, 0), -1);
        due("beyond the edge", x.asks(1, 4, 1), -1);
        due("nothing was refused", x.count(6), 0);
    }

    private static void wantsAndTerms() {
        FootMaps x = new FootMaps();
        due("no such walker", x.wants(0, 1), -2);
        due("a number that can't be is told first", x.wants(0, -1), -1);
        x.walker(0, 1);
        due("wants", x.wants(0, 0x3f), 0);
        due("seven", x.wants(0, 0x7f), -1);
        due("wants", x.wants(0, 1 << 24), 0x3f);
        due("beyond the cells", x.wants(0, 1 << 25), -1);
        due("beyond the cells", x.wants(0, Integer.MIN_VALUE), -1);
        due("wants", x.wants(0, 0), 1 << 24);
        due("no such walker", x.wants(-1, 0), -2);
        due("no such walker", x.wants(1, 0), -2);

        int[] most = {999, 10, 9};
        int[] first = {0, 1, 0};
        for (int what = 0; what < 3; what++) {
            due("terms", x.terms(what, most[what]), first[what]);
            due("too much", x.terms(what, most[what] + 1), -1);
            due("too little", x.terms(what, -1), -1);
            due("count", x.count(12 + what), most[what]);
            due("terms", x.terms(what, 0), most[what]);
        }
        due("terms", x.terms(3, 0), -1);
        due("terms", x.terms(-1, 0), -1);
    }

    private static void tapes() {
        FootMaps x = new FootMaps();
        for (int n = 1; n <= 20; n++) {
            due("feed", x.feed(1, 2, 3, 4, 5), 20 * n);
        }
        due("full", x.feed(0, 0, 0, 0, 0), -1);
        due("tape", x.count(5), 400);
        due("not so many", x.end(401), -1);
        due("below 0", x.end(-1), -1);
        due("end", x.end(400), 400);
        due("end", x.end(381), 381);
        due("more than 400", x.feed(0, 0, 0, 0, 0), -1);
        due("end", x.end(380), 380);
        due("feed", x.feed(0, 0, 0, 0, 0), 400);
        due("end", x.end(0), 0);
        due("end", x.end(1), -1);
        due("feed", x.feed(0x05020718, 0x0103ff00, 0x00, 0, 0), 20);
        x.end(8);
        due("highest byte first", x.row(), 2);
        due("kind", x.land(5, 0), 2);
        due("height", x.land(5, 1), 7);
        due("kind", x.land(24, 0), 1);
        due("height", x.land(24, 1), 3);
        due("neither was refused", x.count(6) + x.count(9), 0);
    }

    private static void rows() {
        FootMaps x = new FootMaps();
        due("empty", x.row(), -6);
        due("status", x.status(), -6);
        tape(x, "\1\2\3\31\0\0\2\4\0\3\0\12\4\3\11\5\1");
        due("row", x.row(), 2);
        due("blots", x.blots(), 4);
        due("tape", x.count(5), 0);
        due("kind", x.land(1, 0), 2);
        due("height", x.land(1, 1), 3);
        due("kind", x.land(4, 0), 3);
        due("height", x.land(4, 1), 9);
        due("a blot is nothing", x.land(5, 0), 0);
        due("a blot is nothing", x.land(2, 0), 0);
        due("empty", x.row(), -6);
        due("blots of the latest that was not refused", x.blots(), 4);
        tape(x, "\6\1\1\6\2\2");
        due("a cell twice", x.row(), 2);
        due("the later one", x.land(6, 0), 2);
        due("blots", x.blots(), 0);
        tape(x, "\u00ff");
        due("blots alone", x.row(), 0);
        due("blots", x.blots(), 1);
        due("status", x.status(), 0);
    }

    private static String repeat(String what, int times) {
        return what.repeat(times);
    }

    private static void lawTexts() {
        lawFault("", 0);
        lawFault("   ", 3);
        lawFault("bars", -1);
        lawFault(" bars ", -1);
        lawFault("bars;", 5);
        lawFault("bars ; ", 7);
        lawFault("bars bars", 5);
        lawFault("bar", 0);
        lawFault("Bars", 0);
        lawFault("barsz", 0);
        lawFault("bars{", 4);
        lawFault("bars`", 4);
        lawFault(repeat(";", 400), 0);
        lawFault("bars" + repeat(" ", 396), -1);
        lawFault("bars;" + repeat(" ", 395), 400);
        lawFault("barsif1=1", 0);
        lawFault("bars if1=1", -1);
        lawFault("bars\tif 1=1", 4);
        lawFault("costs", 5);
        lawFault("costs1", -1);
        lawFault("costs 1000", -1);
        lawFault("costs 1001", 6);
        lawFault("costs 0001000", -1);
        lawFault("costs 99999999999999999999", 6);
        lawFault("costs -1", 6);
        lawFault("costs 1 -", 9);
        lawFault("costs (1)", 6);
        lawFault("costs [1", 8);
        lawFault("costs [1)", 8);
        lawFault("costs 1 2", 8);
        lawFault("costs 1 if", 10);
        lawFault("costs 1 if 1", 12);
        lawFault("costs 1 if 1 = 2 = 3", 17);
        lawFault("costs 1 if (1 = 2", 17);
        lawFault("costs 1 if (1) = 2", 13);
        lawFault("costs 1 if [1] = 2", -1);
        lawFault("costs 1 if [1 = 2]", 14);
        lawFault("costs 1 if not", 14);
        lawFault("costs 1 if not not ( not 1 < 2 and 3 > 4 ) or 5 = 6", -1);
        lawFault("costs 1 if 1 = 2 and", 20);
        lawFault("costs 1 if 1 = 2 or ;", 20);
        lawFault("costs 1 if 1 = 2 not", 17);
        lawFault("costs 1 if 1 = 2 costs", 17);
        lawFault("costs walker+kind-height*rise/known%pace", -1);
        lawFault("costs minute + mood", -1);
        lawFault("costs done", 6);
        lawFault("costs latest", 6);
        lawFault("costs at 0", 6);
        lawFault("costs mapped 0", 6);
        lawFault("costs kind 1", 11);
        lawFault("costs if", 6);
        lawFault("costs 1 times 2", 8);
        lawFault("step 0 to 1", 0);
        lawFault("sees 2 \u00e9", 7);
        lawFault("costs 1;bars;sees 1", -1);
        lawFault(repeat("bars;", 11) + "bars", -1);
        lawFault(repeat("bars;", 12) + "bars", 60);
        lawFault(repeat("bars;", 12) + " 7", 61);
        lawFault(repeat("bars;", 12), 60);
        lawFault("costs " + repeat("1+", 49) + "1", -1);
        lawFault("costs " + repeat("1+", 49) + "1+1", 106);
        lawFault("costs " + repeat("1+", 49) + "1+[1]", 107);
        lawFault("costs " + repeat("1+", 24) + "1;costs " + repeat("1+", 24) + "1", -1);
        lawFault("costs " + repeat("1+", 24) + "1;costs " + repeat("1+", 24) + "1;sees kind", 117);
        lawFault("costs " + repeat("[", 8) + "1" + repeat("]", 8), -1);
        lawFault("costs " + repeat("[", 9) + "1" + repeat("]", 9), 14);
        lawFault("bars if " + repeat("(", 8) + "1=1" + repeat(")", 8), -1);
        lawFault("bars if " + repeat("(", 9) + "1=1" + repeat(")", 9), 16);
        lawFault("bars if " + repeat("(", 4) + repeat("[", 4) + "1" + repeat("]", 4) + "=1" + repeat(")", 4), -1);
        lawFault("bars if " + repeat("(", 4) + repeat("[", 5) + "1", 16);
        lawFault("costs [[1]]+[[[[[[[[1]]]]]]]]", -1);
        lawFault("bars if " + repeat("not ", 97) + "1=1", -1);

        FootMaps x = new FootMaps();
        for (int n = 0; n < 6; n++) {
            due("law", law(x, "bars"), n);
        }
        law(x, "bars ;");
        due("six are all", x.status(), -5);
        due("tape", x.count(5), 0);
        due("not read", x.fault(), -1);
        due("laws", x.count(3), 6);
        due("refused", x.count(9), 1);
        FootMaps y = new FootMaps();
        law(y, "bars if");
        due("fault", y.fault(), 7);
        law(y, "bars");
        due("fault of the latest", y.fault(), -1);
    }

    private static void lawValues() {
        costs("costs walker + 3", 4);
        costs("costs kind + 3", 4);
        costs("costs height", 5);
        costs("costs rise", 2);
        costs("costs known + 3", 3);
        costs("costs pace", 7);
        costs("costs minute / 6", 6);
        costs("costs mood", 8);
        costs("costs 100", 9);
        costs("costs 0", 1);
        costs("costs 0 - 7", 1);
        costs("sees 3", 1);
        costs("costs 4; costs 5", 5);
        costs("costs 4; costs 5 if 1 = 2", 4);
        costs("costs 4; costs 5 / 0", 4);
        costs("costs 4; costs 5 % 0", 4);
        costs("costs 4; costs 5 if 1 / 0 = 1", 4);
        costs("costs 4; costs 5 if not 1 / 0 = 1", 4);
        costs("costs 4; costs 5 if 1 = 1 or 1 / 0 = 1", 5);
        costs("costs 4; costs 5 if 1 / 0 = 1 or 1 = 1", 4);
        costs("costs 4; costs 5 if 1 = 2 or 1 / 0 = 1 or 1 = 1", 4);
        costs("costs 4; costs 5 if not (1 = 2 and 1 / 0 = 1)", 5);
        costs("costs 4; costs 5 if not (1 = 1 and 1 / 0 = 1)", 4);
        costs("costs 4; costs 5 if 1 = 2 and 1 / 0 = 1 or 1 = 1", 5);
        costs("costs 4; costs 5 if 1 = 1 or 1 = 2 and 1 = 2", 5);
        costs("costs 4; costs 5 if (1 = 1 or 1 = 2) and 1 = 2", 4);
        costs("costs 4; costs 5 if not 1 = 1 or 1 = 1", 5);
        costs("costs 4; costs 5 if not not 1 = 1", 5);
        costs("costs 4; costs 5 if 2 < 3 and 3 > 2 and 3 = 3", 5);
        costs("costs 4; costs 5 if 3 < 3", 4);
        costs("costs 4; costs 5 if 3 > 3", 4);
        costs("costs 2 + 3 * 2", 8);
        costs("costs [2 + 1] * 2", 6);
        costs("costs 9 - 3 - 2", 4);
        costs("costs 100 / 5 / 4", 5);
        costs("costs 17 % 10 / 2", 3);
        costs("costs 10 + [0 - 7] / 2", 7);
        costs("costs 10 + [0 - 7] % 4", 7);
        costs("costs 10 - 7 % [0 - 4]", 7);
        costs("costs 1000 * 1000 * 1000 / 1000 / 1000 / 200", 5);
        costs("costs 4; costs 1000 * 1000 * 1000 + 1 - 999", 4);
        costs("costs 4; costs 1000 * 1000 * 1000 * 1000 * 0", 4);
        costs("costs 4; costs 0 - 1000 * 1000 * 1000", 1);
        costs("costs 4; costs 0 - 1000 * 1000 * 1000 - 1 + 1000 * 1000 * 1000", 4);
        costs("costs 4; costs 7 if 1000 * 1000 * 1000 * 2 > 1", 4);
        FootMaps x = under("costs 5 if known = 1; bars if known = 0 and kind = 2; bars if mood / 0 = 1; bars if 0 = 1");
        x.walker(12, 1);
        x.cell(17, 2, 0);
        due("barred", x.asks(0, 1, 1), 1);
        due("not barred", x.asks(0, 2, 1), 0);
        x.step(0, 2);
        x.step(0, 4);
        due("known", x.asks(0, 1, 1), 0);
        due("known", x.asks(0, 1, 0), 5);
    }

    private static void orderTexts() {
        orderFault("", 0);
        orderFault("  ", 2);
        orderFault("costs 1", 0);
        orderFault("step", 4);
        orderFault("step 0", 6);
        orderFault("step 0 with 1", 7);
        orderFault("step 0 to", 9);
        orderFault("join 0 to 1", 7);
        orderFault("smear 0 with 1", 8);
        orderFault("pass 1", 5);
        orderFault("pass times", 10);
        orderFault("pass times 0", 11);
        orderFault("pass times 21", 11);
        orderFault("pass times kind 0", 11);
        orderFault("pass if 1 = 1 times 2", 14);
        orderFault("pass if minute", 14);
        orderFault("pass if mood = 1", 8);
        orderFault("pass if at = 1", 11);
        orderFault("pass if at 4 = 1", 11);
        orderFault("pass if at minute = 1", 11);
        orderFault("pass if mapped 4 = 1", 15);
        orderFault("pass if kind 25 = 1", 13);
        orderFault("pass if kind = 1", 13);
        orderFault("pass;", 5);
        orderFault(repeat("pass;", 12) + "pass", 60);
        orderFault("pass if " + repeat("at 0+", 49) + "1=1", 255);
        orderFault("pass times 20 if " + repeat("at 0+", 48) + "1=at 0+1", 264);
        orderFault("step " + repeat("[", 9), 13);
        orderFault("step 0 to " + repeat("[", 9), 18);
        orderFault("pass if " + repeat("(", 9), 16);
        orderFault("pass times 1001", 11);
        FootMaps x = new FootMaps();
        due("50 parts", orders(x, "pass times 20 if " + repeat("at 0+", 48) + "1=at 0"), 0);
        due("twelve", orders(x, repeat("pass;", 11) + "pass"), 12);
        due("most", orders(x, "pass times 20 if kind 24 = 0"), 20);
        x.walker(12, 1);
        due("8 brackets", orders(x, "step " + repeat("[", 8) + "0" + repeat("]", 8) + " to " + repeat("[", 8) + "1"
            + repeat("]", 8) + " times 1 if " + repeat("(", 8) + "1=1" + repeat(")", 8)), 1);
        x.cell(0, 3, 0);
        due("kind of the first", orders(x, "pass if kind 0 = 3"), 1);
        due("at and mapped", orders(x, "pass if at 0 = 17; pass if mapped 0 = 5; pass if mapped 3 = 0 - 1"), 3);
    }

    private static void orderRuns() {
        FootMaps x = under("costs kind + 2");
        x.walker(0, 1);
        x.walker(2, 1);
        x.cell(1, 3, 0);
        due("run", orders(x, "step 0 to 2; step 1 to 4 if latest = 5 and done = 1; join 0 with 1; pass times 3"), 6);
        due("where", x.of(0, 0), 1);
        due("where", x.of(1, 0), 1);
        due("minute", x.count(12), 3);
        due("to undo", x.count(4), 6);
        due("stopped", x.stopped(), -1);
        due("status", x.status(), 0);
        due("latest is none", orders(x, "pass if latest = 0 - 1; pass if latest > 0 - 1"), 1);
        due("done begins anew", orders(x, "pass if done = 0"), 1);
        due("asked each time", orders(x, "pass times 20 if minute < 9"), 4);
        due("not run", orders(x, "pass if 1 = 2"), 0);
        due("a broken if is not run", orders(x, "step 9 to 9 if 1 / 0 = 1"), 0);
        due("sums", orders(x, "step done * 7 to at 0 + 1; step [at 1 + at 0] % 2 to mapped 1 - 2 if at 2 = 0 - 1"), 2);
        due("where", x.of(0, 0), 2);
        due("where", x.of(1, 0), 2);
        due("without such a walker", orders(x, "pass if at 3 = 0 - 1 and mapped 2 = 0 - 1"), 1);
        due("kinds", orders(x, "pass if kind 1 = 3 and kind 0 = 0"), 1);
        due("smears", orders(x, "smear at 1 of 1 if mapped 1 > 5; smear 0 of 1"), 2);
        due("smeared already", orders(x, "smear 6 of 1 times 2"), -3);
        due("mapped", x.of(1, 4), 1 << 1 | 1 << 3 | 1 << 6 | 1 << 7);

        FootMaps y = new FootMaps();
        y.walker(0, 1);
        y.walker(0, 1);
        for (int n = 0; n < 17; n++) {
            y.step(0, n % 2 == 0 ? 1 : 3);
        }
        due("where", y.of(0, 0), 5);
        due("can't be", orders(y, "step 1 to 1 times 4; pass times 20; join 0 with 0"), -3);
        due("stopped", y.stopped(), 2);
        due("status", y.status(), -3);
        due("no fault", y.fault(), -1);
        due("as it was", y.of(1, 0), 0);
        due("as it was", y.of(1, 3), 0);
        due("as it was", y.count(12), 0);
        due("as it was", y.count(4), 16);
        due("as it was", y.undo(), 0);
        due("as it was", y.of(0, 0), 0);
        due("only the call was refused", y.count(6), 0);
        due("only the call was refused", y.count(8), 1);
        keptDeeds();
        String[] not = {"step 0 to 0", "step 0 to 5", "step 2 to 1", "step 0 - 1 to 1", "step 0 to 3", "join 0 with 2",
            "smear 25 of 0", "smear 24 of 0", "smear 0 of 7", "step 1 / 0 to 1", "step 0 to 1 % 0", "join 1 with 1"};
        for (String n : not) {
            due(n, orders(y, "pass;pass;" + n + ";pass"), -3);
            due("stopped by " + n, y.stopped(), 2);
            due("minute behind " + n, y.count(12), 0);
        }
        y.terms(0, 998);
        due("minutes end", orders(y, "pass times 2"), -3);
        due("minutes end", orders(y, "pass"), 1);
        due("stopped", y.stopped(), -1);
        due("a text that can't be", orders(y, "pass pass"), -6);
        due("fault", y.fault(), 5);
        due("stopped", y.stopped(), -1);
        due("minute", y.count(12), 999);
    }

    /** Orders that can't be push out of what can be undone nothing that was there. */
    private static void keptDeeds() {
        FootMaps x = new FootMaps();
        x.walker(0, 1);
        x.walker(2, 1);
        x.cell(1, 3, 0);
        x.cell(2, 2, 0);
        x.step(0, 2);
        x.step(1, 4);
        x.step(1, 1);
        x.step(1, 3);
        x.join(1, 0);
        x.smear(2, 0);
        due("can't be", orders(x, "step 1 to 1; smear 1 of 1; pass; step 0 to 1; join 0 with 1; step 0 to 2 times 9"), -3);
        due("can't be", orders(x, "pass times 20; smear 24 of 1"), -3);
        due("to undo", x.count(4), 6);
        due("a smear", x.undo(), 2);
        due("kind", x.sheet(0, 2), 2);
        due("a join", x.undo(), 1);
        due("one", x.of(0, 4), 1 | 1 << 1 | 1 << 2 | 1 << 6);
        due("the other", x.of(1, 4), 1 | 1 << 1 | 1 << 2 | 1 << 5 | 1 << 6 | 1 << 7 | 1 << 11);
        due("a step", x.undo(), 0);
        due("where", x.of(1, 0), 6);
        due("a step", x.undo(), 0);
        due("where", x.of(1, 0), 1);
        due("sheet", x.of(1, 4), 1 | 1 << 1 | 1 << 2 | 1 << 6);
        due("kind", x.sheet(1, 1), 3);
        due("a step", x.undo(), 0);
        due("where", x.of(1, 0), 2);
        due("a step", x.undo(), 0);
        due("where", x.of(0, 0), 0);
        due("blank", x.count(1), 0);
    }

    private static void forces() {
        FootMaps x = new FootMaps();
        due("none was", x.force(-1), -1);
        due("status", x.status(), 0);
        due("no such law", x.force(0), -2);
        due("status", x.status(), -2);
        law(x, "costs 3");
        law(x, "costs 4");
        x.walker(0, 1);
        due("not yet in force", x.asks(0, 1, 0), 1);
        due("force", x.force(1), -1);
        due("cost", x.asks(0, 1, 0), 4);
        due("force", x.force(0), 1);
        due("cost", x.asks(0, 1, 0), 3);
        due("no such law", x.force(2), -2);
        due("no such law", x.force(-2), -2);
        due("in force", x.count(11), 0);
        due("none", x.force(-1), 0);
        due("cost", x.asks(0, 1, 0), 1);
    }

    private static void joins() {
        FootMaps x = new FootMaps();
        x.walker(10, 1);
        x.walker(14, 1);
        due("not in one cell", x.join(0, 1), -3);
        x.cell(11, 2, 0);
        x.step(0, 2);
        x.cell(11, 1, 0);
        x.step(1, 4);
        x.step(1, 4);
        x.step(1, 4);
        due("in one cell", x.of(0, 0), x.of(1, 0));
        // one has 6 10 11 12 16; the other 8 12 13 14 18, 7 11 17, 6 10 16
        due("one", x.of(0, 3), 5);
        due("the other", x.of(1, 3), 11);
        due("its own kind", x.sheet(0, 11), 2);
        due("join", x.join(0, 1), 6);
        due("it keeps what it had", x.sheet(0, 11), 2);
        due("and the other too", x.sheet(1, 11), 1);
        due("which", x.of(0, 4), x.of(1, 4));
        due("nothing more", x.join(1, 0), 0);
        x.smear(11, 0);
        due("it gets what it has not", x.join(0, 1), 1);
        due("from the other", x.sheet(0, 11), 1);
        due("itself", x.join(0, 0), -1);
        due("itself is told first", x.join(7, 7), -1);
        due("no such", x.join(0, 2), -2);
        due("no such", x.join(-1, 0), -2);
        FootMaps y = new FootMaps();
        y.walker(0, 1);
        y.walker(0, 1);
        y.step(0, 1);
        y.step(0, 3);
        y.step(1, 2);
        y.step(1, 4);
        due("both ways", y.join(0, 1), 2);
        due("both ways", y.of(0, 4), 1 | 1 << 1 | 1 << 2 | 1 << 5 | 1 << 6 | 1 << 10);
        due("both ways", y.of(1, 4), y.of(0, 4));
    }

    private static void smearsAndMinutes() {
        FootMaps x = new FootMaps();
        x.walker(0, 1);
        x.step(0, 1);
        due("smear", x.smear(0, 0), 3);
        due("blank", x.sheet(0, 0), -1);
        due("blank already", x.smear(0, 0), -3);
        due("never seen", x.smear(24, 0), -3);
        due("no such cell", x.smear(25, 0), -1);
        due("no such cell", x.smear(-1, 5), -1);
        due("no such walker", x.smear(0, 1), -2);
        due("no such walker", x.smear(0, -1), -2);
        due("pass", x.pass(), 1);
        due("pass", x.pass(), 2);
        x.terms(0, 998);
        due("pass", x.pass(), 999);
        due("no more", x.pass(), -3);
        due("minute", x.count(12), 999);
    }

    private static void undoing() {
        FootMaps x = new FootMaps();
        x.walker(0, 1);
        x.walker(6, 1);
        due("none", x.undo(), -3);
        due("status", x.status(), -3);
        x.step(0, 1);
        x.cell(5, 3, 0);
        x.step(0, 2);
        due("kind", x.sheet(0, 5), 3);
        x.join(0, 1);
        x.smear(5, 1);
        x.pass();
        x.step(1, 3);
        due("all", x.count(4), 6);
        due("a step", x.undo(), 0);
        due("where", x.of(1, 0), 6);
        due("a minute", x.undo(), 3);
        due("minute", x.count(12), 0);
        due("a smear", x.undo(), 2);
        due("kind", x.sheet(1, 5), 3);
        due("a join", x.undo(), 1);
        due("both sheets", x.of(1, 3), 0);
        due("both sheets", x.of(0, 3), 7);
        due("a step", x.undo(), 0);
        due("kind as it was", x.sheet(0, 5), 0);
        due("the land is not undone", x.land(5, 0), 3);
        due("a step", x.undo(), 0);
        due("blank", x.of(0, 4), 0);
        due("where", x.of(0, 0), 0);
        due("none", x.undo(), -3);

        for (int n = 0; n < 20; n++) {
            x.pass();
        }
        due("sixteen", x.count(4), 16);
        for (int n = 0; n < 16; n++) {
            due("undo", x.undo(), 3);
        }
        due("no more", x.undo(), -3);
        due("minute", x.count(12), 4);
        x.pass();
        x.terms(0, 1000);
        x.walker(0, 0);
        due("refused ones change nothing", x.count(4), 1);
        x.terms(2, 0);
        due("behind terms()", x.undo(), -3);
        x.pass();
        x.walker(0, 1);
        due("behind walker()", x.undo(), -3);
        x.pass();
        x.cell(0, 0, 0);
        x.wants(0, 5);
        law(x, "bars");
        x.force(0);
        x.days(1, 3);
        due("behind others", x.undo(), 3);
        due("wants stay", x.of(0, 2), 5);
        due("an order", orders(x, "pass times 3"), 3);
        due("undo", x.undo(), 3);
        due("minute", x.count(12), 8);
    }

    private static void ways() {
        FootMaps x = new FootMaps();
        x.walker(0, 1);
        due("cost", x.way(0, 24, -1), 8);
        row("way", i -> x.way(0, 24, i), 1, 2, 3, 4, 9, 14, 19, 24);
        due("where it is", x.way(0, 0, -1), 0);
        row("no cells", i -> x.way(0, 0, i));
        due("way", x.way(1, 0, -1), -1);
        due("way", x.way(-1, 0, -1), -1);
        due("way", x.way(0, 25, -1), -1);
        due("way", x.way(0, -1, -1), -1);
        FootMaps y = under("costs kind * 4 + 1; bars if height = 9");
        y.walker(0, 1);
        // a wall over the second row but for its right end, and a dear cell at the lowest corner
        y.cell(5, 0, 9);
        y.cell(6, 0, 9);
        y.cell(7, 0, 9);
        y.cell(8, 0, 9);
        y.cell(4, 1, 0);
        due("cost", y.way(0, 10, -1), 14);
        row("round the wall", i -> y.way(0, 10, i), 1, 2, 3, 4, 9, 14, 13, 12, 11, 10);
        due("barred", y.way(0, 5, -1), -1);
        row("barred", i -> y.way(0, 5, i));
        due("not known", y.sure(0, 10, -1), -1);
        due("where it is, though blank", y.sure(0, 0, -1), 0);
        row("no cells", i -> y.sure(0, 0, i));
        y.step(0, 2);
        due("known", y.sure(0, 2, -1), 1);
        due("known, but barred", y.sure(0, 6, -1), -1);
        due("back", y.sure(0, 0, -1), 1);
        due("not known", y.sure(0, 3, -1), -1);
        y.smear(0, 0);
        due("smeared", y.sure(0, 0, -1), -1);
        due("sure", y.sure(1, 0, -1), -1);
        due("sure", y.sure(0, 25, -1), -1);

        FootMaps z = under("costs 1 + rise * 3 if rise > 0");
        z.walker(12, 1);
        z.cell(7, 0, 2);
        z.cell(2, 0, 2);
        due("up by the slope, then along it", z.way(0, 2, -1), 8);
        row("first of equal ones", i -> z.way(0, 2, i), 7, 2);
        z.walker(2, 1);
        due("downhill", z.way(1, 12, -1), 2);
        z.step(0, 1);
        z.step(0, 2);
        z.step(0, 3);
        // the sheet: 17 and round it, 18 and round it, 13 and round it
        due("not on the sheet", z.sure(0, 11, -1), -1);
        due("over the sheet", z.sure(0, 16, -1), 3);
        row("over the sheet", i -> z.sure(0, 16, i), 12, 17, 16);
        z.smear(12, 0);
        due("way does not ask the sheet", z.way(0, 11, -1), 2);
        due("round what was smeared", z.sure(0, 16, -1), 3);
        row("round what was smeared", i -> z.sure(0, 16, i), 18, 17, 16);
        FootMaps k = under("costs 5 if known = 1");
        k.walker(12, 1);
        k.step(0, 2);
        k.step(0, 4);
        due("sheets as now", k.way(0, 9, -1), 9);
        row("sheets as now", i -> k.way(0, 9, i), 7, 2, 3, 4, 9);
    }

    private static void tours() {
        FootMaps x = new FootMaps();
        x.walker(12, 1);
        due("nothing is wanted", x.tour(0, -1), 0);
        row("no cells", i -> x.tour(0, i));
        due("tour", x.tour(1, -1), -1);
        due("tour", x.tour(-1, -1), -1);
        x.wants(0, 1 << 12);
        due("from a cell it comes to", x.tour(0, -1), 1);
        row("the lowest", i -> x.tour(0, i), 7);
        x.wants(0, 1 << 0 | 1 << 4);
        due("two corners", x.tour(0, -1), 5);
        // to see 0 from 1 or 5, to see 4 from 3 or 9: 12 7 2 1 2 3
        row("two corners", i -> x.tour(0, i), 7, 2, 1, 2, 3);
        x.wants(0, 1 << 0 | 1 << 4 | 1 << 20 | 1 << 24);
        due("four corners", x.tour(0, -1), 11);
        FootMaps y = under("bars if kind = 3; sees 2 if kind = 2; sees 0 if kind = 1");
        y.walker(0, 1);
        y.cell(1, 3, 0);
        y.cell(6, 3, 0);
        y.cell(11, 3, 0);
        y.cell(16, 3, 0);
        y.cell(21, 3, 0);
        y.wants(0, 1 << 1 | 1 << 24);
        due("behind a wall", y.tour(0, -1), -1);
        row("behind a wall", i -> y.tour(0, i));
        y.wants(0, 1 << 22);
        due("too far", y.tour(0, -1), -1);
        y.cell(20, 2, 0);
        due("seen over the wall", y.tour(0, -1), 4);
        row("seen over the wall", i -> y.tour(0, i), 5, 10, 15, 20);
        y.wants(0, 1 << 22 | 1 << 1);
        due("its own cell is not come to", y.tour(0, -1), 6);
        row("the neighbour of where it is, first", i -> y.tour(0, i), 5, 0, 5, 10, 15, 20);
        y.step(0, 1);
        y.step(0, 3);
        due("what is there already", y.tour(0, -1), 4);
        y.cell(5, 1, 0);
        due("on the sheet, as another kind", y.tour(0, -1), 4);
    }

    private static void meetings() {
        FootMaps x = new FootMaps();
        x.walker(0, 1);
        due("one alone", x.meet(0, 1, 0), -1);
        due("one alone", x.meet(0, 0, 0), -1);
        x.walker(4, 1);
        due("cell", x.meet(0, 1, 0), 2);
        due("cost", x.meet(0, 1, 1), 2);
        due("cell", x.meet(1, 0, 0), 2);
        due("meet", x.meet(0, 1, 2), -1);
        due("meet", x.meet(0, 1, -1), -1);
        due("meet", x.meet(-1, 0, 0), -1);
        due("itself", x.meet(1, 1, 0), -1);
        x.walker(4, 1);
        due("in one cell", x.meet(1, 2, 0), 4);
        due("cost", x.meet(1, 2, 1), 0);
        x.walker(3, 1);
        due("the lowest of equal ones", x.meet(0, 3, 0), 1);
        due("the greater", x.meet(0, 3, 1), 2);
        law(x, "costs 5 if walker = 0");
        x.force(0);
        due("the dear one stays", x.meet(0, 1, 0), 0);
        due("cost", x.meet(0, 1, 1), 4);
        law(x, "bars if walker < 2 and kind = 0; bars if walker = 2 and kind = 0");
        x.force(1);
        due("they can't", x.meet(0, 1, 0), -1);
        due("they can't", x.meet(0, 1, 1), -1);
    }

    private static void staleAndBoth() {
        FootMaps x = new FootMaps();
        x.walker(12, 1);
        x.walker(12, 1);
        due("stale", x.stale(2), -1);
        due("stale", x.stale(-1), -1);
        due("stale", x.stale(0), 0);
        x.step(0, 1);
        x.step(1, 3);
        x.cell(17, 1, 0);
        x.cell(22, 0, 5);
        x.cell(0, 3, 0);
        due("another kind now", x.stale(0), 1 << 17);
        due("of the other", x.stale(1), 0);
        x.cell(17, 0, 0);
        due("so again", x.stale(0), 0);
        FootMaps z = new FootMaps();
        z.walker(1, 1);
        z.step(0, 4);
        z.cell(0, 1, 0);
        z.cell(5, 3, 0);
        due("the first, too", z.stale(0), 1 | 1 << 5);

        // 0 has 12 16 17 18 22; 1 has 2 6 7 8 12
        due("none", x.both(-1), 0);
        due("none", x.both(0), -1);
        x.wants(0, 1 << 2);
        due("one alone gains", x.both(-1), 0);
        x.wants(1, 1 << 12);
        due("has it already", x.both(-1), 0);
        x.wants(1, 1 << 22);
        due("both gain", x.both(-1), 1);
        row("both", x::both, 1);
        x.walker(6, 1);
        x.wants(2, 1 << 16 | 1 << 7);
        x.step(2, 4);
        // 2 has 0 5 6 10
        x.wants(0, 1 << 2 | 1 << 5);
        due("two", x.both(-1), 2);
        row("both", x::both, 1, 2);
        x.wants(1, 1 << 22 | 1 << 0);
        due("three", x.both(-1), 3);
        row("both", x::both, 1, 2, 12);
    }

    private static void yards() {
        FootMaps x = new FootMaps();
        due("everywhere", x.yard(), ALL);
        due("glimpse", x.glimpse(5, 0), -1);
        due("glimpse", x.glimpse(-1, 0), -1);
        due("glimpse", x.glimpse(0, 5), -1);
        due("glimpse", x.glimpse(0, -1), -1);
        due("none yet", x.forget(), 0);
        x.cell(12, 1, 0);
        due("once", x.glimpse(1, 1), 1);
        due("below it", x.yard(), 1 << 7);
        due("twice", x.glimpse(4, 4), 2);
        due("nowhere", x.yard(), 0);
        due("no way", x.look(0), -1);
        due("no way", x.look(1), -1);
        due("forget", x.forget(), 2);
        due("everywhere", x.yard(), ALL);
        x.glimpse(4, 4);
        due("left edge", x.yard(), 1 | 1 << 5 | 1 << 10 | 1 << 15 | 1 << 20);
        due("up tells one from four", x.look(0), 1);
        due("at most", x.look(1), 4);
        x.glimpse(3, 4);
        due("corner", x.yard(), 1);
        due("where one is", x.look(0), 0);
        due("one", x.look(1), 1);
        due("look", x.look(2), -1);
        due("look", x.look(-1), -1);
        x.glimpse(0, 4);
        due("one is never beyond the edge", x.yard(), 0);
        due("fourth", x.glimpse(0, 0), 4);
        due("fifth", x.glimpse(0, 0), 5);
        due("sixth", x.glimpse(0, 0), 6);
        due("no room", x.glimpse(0, 0), -5);
        due("can't be", x.glimpse(0, 9), -1);
        due("six", x.count(2), 6);
        due("forget", x.forget(), 6);
        due("status is of glimpse", x.status(), -1);
        FootMaps y = new FootMaps();
        for (int c = 0; c < 25; c++) {
            y.cell(c, c % 5 == 4 ? 0 : c % 4, 0);
        }
        y.glimpse(2, 0);
        // 0 is at 0 8 12 16 20 and at 4 9 14 19 24: one stands left of these
        due("left of a 0", y.yard(), 1 << 7 | 1 << 11 | 1 << 15 | 1 << 3 | 1 << 8 | 1 << 13 | 1 << 18 | 1 << 23);
        // their own kinds: five times 3; above them: four times 0; right: eight times 0; below, left: four times 2
        due("way", y.look(0), 1);
        due("at most", y.look(1), 4);
    }

    private static void reachAndCover() {
        FootMaps x = under("bars if kind = 1");
        due("reach", x.reach(0), -1);
        x.walker(0, 1);
        due("reach", x.reach(0), ALL);
        due("reach", x.reach(-1), -1);
        x.cell(1, 1, 0);
        x.cell(6, 1, 0);
        x.cell(10, 1, 0);
        due("shut in", x.reach(0), 1 | 1 << 5);
        x.cell(5, 1, 0);
        due("where it is", x.reach(0), 1);

        FootMaps y = new FootMaps();
        due("no walkers", y.cover(0), 0);
        due("no walkers", y.cover(1), 0);
        due("cover", y.cover(2), -1);
        due("cover", y.cover(-1), -1);
        y.walker(0, 1);
        due("blank", y.cover(0), 0);
        y.walker(12, 1);
        y.walker(12, 1);
        y.walker(12, 1);
        y.step(1, 1);
        y.step(2, 1);
        due("one is enough", y.cover(0), 1);
        due("the lower one", y.cover(1), 2);
        y.step(0, 1);
        due("two", y.cover(0), 2);
        due("who", y.cover(1), 3);
        y.step(3, 1);
        y.step(3, 3);
        due("one has more", y.cover(1), 9);
        due("three are not needed", y.cover(0), 2);
    }

    private static void chances() {
        FootMaps x = new FootMaps();
        due("one pace", x.few(1, 1), 900000000000L);
        due("two", x.few(1, 2), 810000000000L);
        due("two", x.few(2, 2), 990000000000L);
        due("all", x.few(3, 2), 1000000000000L);
        due("no pace", x.few(20, 0), 1000000000000L);
        due("twelve", x.few(1, 12), 282429536481L);
        due("thirteen, cut", x.few(1, 13), 254186582832L);
        // none: 254186582832; one: of 12 282429536481 and 12 times 31381059609 more
        due("thirteen, one or none", x.few(2, 13), 254186582832L + 338915443777L + 28242953648L);
        due("few", x.few(0, 1), -1);
        due("few", x.few(21, 1), -1);
        due("few", x.few(1, -1), -1);
        due("few", x.few(1, 100), -1);
        x.terms(1, 0);
        due("never", x.few(1, 99), 1000000000000L);
        x.terms(1, 10);
        due("always", x.few(20, 20), 0);
        due("always", x.few(20, 19), 1000000000000L);
        x.terms(1, 5);
        due("half", x.few(2, 3), 500000000000L);
        due("half", x.few(3, 4), 687500000000L);
        due("many, none", x.few(1, 40), 0);
        due("nothing was refused", x.count(6), 0);
    }

    private static void comparing() {
        FootMaps x = new FootMaps();
        x.walker(0, 1);
        law(x, "costs 3");
        law(x, "bars if kind = 1");
        due("none", x.compare(-1, 0, 12), 4);
        due("by a law", x.compare(0, 0, 12), 12);
        x.force(0);
        due("in force", x.way(0, 12, -1), 12);
        due("none in its place", x.compare(-1, 0, 12), 4);
        x.cell(12, 1, 0);
        due("barred", x.compare(1, 0, 12), -1);
        due("round", x.compare(1, 0, 22), 6);
        due("where it is", x.compare(0, 0, 0), 0);
        due("no such law", x.compare(2, 0, 12), -1);
        due("no such law", x.compare(-2, 0, 12), -1);
        due("no such walker", x.compare(0, 1, 12), -1);
        due("no such walker", x.compare(0, -1, 12), -1);
        due("no such cell", x.compare(0, 0, 25), -1);
        due("no such cell", x.compare(0, 0, -1), -1);
        due("the law in force stays", x.count(11), 0);
    }

    private static void drawnDays() {
        FootMaps x = new FootMaps();
        due("no walkers", x.days(0, 1), -3);
        due("can't be", x.days(-1, 1), -1);
        due("-1 first", x.days(0, 61), -1);
        x.walker(12, 1);
        due("seed", x.days(-1, 1), -1);
        due("seed", x.days(1000001, 1), -1);
        due("n", x.days(0, 0), -1);
        due("n", x.days(0, 61), -1);
        due("drawn", x.drawn(0, 0), -1);
        // the ways drawn are 2, 2, 3, 2
        due("once", x.days(0, 1), 1);
        due("cell", x.drawn(0, 0), 13);
        due("sheet", x.drawn(0, 1), 1 << 8 | 1 << 12 | 1 << 13 | 1 << 14 | 1 << 18);
        due("twice", x.days(0, 2), 2);
        due("cell", x.drawn(0, 0), wayDrawn(wayDrawn(12, 0, 1), 0, 2));
        due("on paper", x.of(0, 0), 12);
        due("on paper", x.count(12), 0);
        due("on paper", x.of(0, 3), 0);
        due("nothing to undo", x.count(4), 0);
        due("most", x.days(1000000, 60) > 0 ? 1 : 0, 1);
        int cell = x.drawn(0, 0);
        due("refused", x.days(0, 0), -1);
        due("the latest stays", x.drawn(0, 0), cell);
        due("drawn", x.drawn(0, 2), -1);
        due("drawn", x.drawn(0, -1), -1);
        due("drawn", x.drawn(1, 0), -1);
        due("drawn", x.drawn(-1, 0), -1);
        x.walker(0, 1);
        due("was not there", x.drawn(1, 0), -1);
        x.terms(0, 999);
        due("at the last minute", x.days(0, 60), 0);
        due("cell", x.drawn(1, 0), 0);
        x.terms(0, 998);
        due("one minute more", x.days(0, 60), 1);
        FootMaps v = under("costs minute % 10; bars if minute = 997");
        v.walker(10, 1);
        v.terms(0, 995);
        due("the minutes pass on paper", v.days(0, 60), 5 + 6 + 8);
        due("cell", v.drawn(0, 0), 13);

        FootMaps y = under("bars if walker = 0; sees 0");
        y.walker(13, 1);
        y.walker(12, 1);
        y.walker(13, 1);
        // draws of 3: 12345 % 3 = 0: it can't step, and joins 2 in its cell
        y.days(0, 1);
        due("stays", y.drawn(0, 0), 13);
        due("cost", y.days(0, 1), 0);
        FootMaps z = under("sees 1");
        z.walker(13, 1);
        z.walker(13, 1);
        z.walker(12, 1);
        z.step(1, 2);
        z.step(1, 4);
        int has = z.of(1, 4);
        // 12345 % 2 = 1 among two; among three it is 0
        z.days(0, 1);
        due("0 went right", z.drawn(0, 0), 14);
        due("and met nobody", z.drawn(0, 1), 1 << 9 | 1 << 13 | 1 << 14 | 1 << 19);
        FootMaps w = new FootMaps();
        w.walker(14, 1);
        w.walker(13, 1);
        w.walker(15, 1);
        w.step(1, 2);
        has = w.of(1, 4);
        w.days(0, 1);
        due("0 can't go on", w.drawn(0, 0), 14);
        due("but joins the other", w.drawn(0, 1), has);
        due("on paper alone", w.of(0, 4), 0);
    }

    private static int wayDrawn(int cell, long seed, int time) {
        long s = seed;
        for (int n = 0; n < 2 * time; n++) {
            s = (1103 * s + 12345) % 1000003;
        }
        int[] by = {5, 1, -5, -1};
        return cell + by[(int) (s % 4)];
    }

    private static void images() {
        FootMaps x = new FootMaps();
        due("image", x.image(2), -1);
        due("image", x.image(-1), -1);
        due("back", x.back(2), -1);
        due("back", x.back(-1), -1);
        due("not kept", x.back(0), -2);
        x.walker(0, 4);
        x.wants(0, 3);
        x.cell(3, 2, 1);
        x.glimpse(0, 2);
        x.terms(1, 3);
        law(x, "costs 7");
        x.force(0);
        x.step(0, 1);
        due("image", x.image(0), 0);
        due("to undo", x.count(4), 1);
        x.step(0, 1);
        x.walker(1, 1);
        x.wants(0, 0);
        x.cell(3, 0, 0);
        x.forget();
        x.terms(1, 9);
        x.terms(0, 9);
        law(x, "costs 2");
        x.force(1);
        x.pass();
        due("image", x.image(1), 0);
        x.days(0, 1);
        int drawn = x.drawn(1, 0);
        tape(x, "pass;pass times 9 if 1=1;bars");
        due("orders", x.orders(), -6);
        x.feed(0xff000000, 0, 0, 0, 0);
        x.end(4);
        x.row();
        x.feed(1, 2, 3, 4, 5);
        int refused = x.count(6);
        due("back", x.back(0), 0);
        due("walkers", x.count(0), 1);
        due("where", x.of(0, 0), 5);
        due("pace", x.of(0, 1), 4);
        due("wants", x.of(0, 2), 3);
        due("sheet", x.of(0, 4), 1 | 1 << 5 | 1 << 6 | 1 << 10);
        due("kind", x.land(3, 0), 2);
        due("height", x.land(3, 1), 1);
        due("glimpsed", x.count(2), 1);
        due("yard", x.yard(), 8);
        due("smears", x.count(13), 3);
        due("minute", x.count(12), 0);
        due("laws", x.count(3), 1);
        due("force", x.count(11), 0);
        due("cost", x.asks(0, 1, 0), 7);
        due("nothing to undo", x.undo(), -3);
        due("tape stays", x.count(5), 20);
        due("fault stays", x.fault(), 25);
        due("blots stay", x.blots(), 2);
        due("the latest days stay", x.drawn(1, 0), drawn);
        due("refused stays", x.count(6), refused);
        law(x, "costs 5");
        due("a law anew", x.compare(1, 0, 10), 5);
        x.walker(20, 2);
        due("a blank sheet", x.of(1, 3), 0);
        due("back", x.back(1), 0);
        due("where", x.of(0, 0), 10);
        due("law", x.compare(1, 0, 15), 2);
        due("minute", x.count(12), 10);
        due("images stay", x.back(0), 0);
        due("where", x.of(0, 0), 5);
        x.step(0, 2);
        due("image anew", x.image(0), 0);
        x.step(0, 2);
        x.back(0);
        due("where", x.of(0, 0), 6);
        due("status", x.status(), 0);
        FootMaps y = new FootMaps();
        y.walker(0, 1);
        y.image(0);
        orders(y, "pass; join 0 with 0");
        y.back(0);
        due("where orders stopped stays", y.stopped(), 1);
    }

    private static void counts() {
        FootMaps x = new FootMaps();
        due("count", x.count(15), -1);
        due("count", x.count(-1), -1);
        x.walker(0, 1);
        x.walker(0, 1);
        x.step(0, 1);
        x.step(1, 2);
        due("walkers", x.count(0), 2);
        due("cells of all sheets", x.count(1), 8);
        x.glimpse(0, 0);
        due("glimpsed", x.count(2), 1);
        law(x, "bars if kind = 3");
        due("laws", x.count(3), 1);
        due("to undo", x.count(4), 2);
        x.feed(0, 0, 0, 0, 0);
        due("tape", x.count(5), 20);
        x.force(0);
        due("force", x.count(11), 0);

        FootMaps y = new FootMaps();
        y.walker(0, 1);
        refused(y, y.cell(0, 0, 10), -1);
        refused(y, y.walker(0, 10), -1);
        refused(y, y.wants(1, 0), -2);
        refused(y, y.terms(3, 0), -1);
        refused(y, y.row(), -6);
        refused(y, law(y, "x"), -6);
        refused(y, orders(y, "x"), -6);
        refused(y, orders(y, "step 0 to 3"), -3);
        refused(y, y.force(0), -2);
        refused(y, y.step(0, 3), -3);
        refused(y, y.join(0, 0), -1);
        refused(y, y.smear(0, 0), -3);
        refused(y, y.undo(), -3);
        refused(y, y.glimpse(9, 0), -1);
        refused(y, y.days(0, 0), -1);
        refused(y, y.image(2), -1);
        refused(y, y.back(1), -2);
        y.walker(0, 1);
        y.walker(0, 1);
        y.walker(0, 1);
        refused(y, y.walker(0, 1), -5);
        int[] due = {7, 3, 4, 1, 3};
        for (int n = 0; n < 5; n++) {
            due("refused " + n, y.count(6 + n), due[n]);
        }
        y.terms(0, 999);
        due("status", y.status(), 0);
        refused(y, y.pass(), -3);
        y.land(99, 0);
        y.of(9, 9);
        y.end(-1);
        y.forget();
        y.few(0, 0);
        y.compare(9, 9, 9);
        due("these are not refused", y.count(6), 7);
        due("nor is the status theirs", y.status(), -3);
        y.image(0);
        due("status", y.status(), 0);
        y.back(0);
        due("images do not keep it", y.count(8), 5);
    }

    private static void refused(FootMaps x, int got, int want) {
        due("refused", got, want);
        due("status", x.status(), want);
    }
}
