/** Boundary cases of term II as far as both languages and laws go, and of the promises 10 to 14, 16, 18. */
public final class TextEdgesTest {
    private static final String BILLION = "1000*1000*1000";

    public static void main(String[] args) {
        tapeLength();
        tokens();
        clauses();
        tests();
        plains();
        sums();
        parts();
        fiftyParts();
        brackets();
        faultPlaces();
        broken();
        onlyIfItMatters();
        lawsAtMost();
        lawClauses();
        lawWords();
        whatIsAsked();
        holding();
        costsWithin();
        seesWithin();
        barred();
        feedCall();
        endCall();
        rows();
        rowCall();
        blotsCall();
        lawCall();
        faultCall();
        forceCall();
        Edges.end();
    }

    /** The place is -1 for a text that is a law. */
    private static void lawFault(String text, int place) {
        FootMaps x = new FootMaps();
        Edges.due("law \"" + text + "\"", Edges.law(x, text), place == -1 ? 0 : -6);
        Edges.due("fault of \"" + text + "\"", x.fault(), place);
        Edges.due("laws behind \"" + text + "\"", x.count(3), place == -1 ? 1 : 0);
    }

    /** What a step from cell 12 (kind 2, height 9) to cell 13 (kind 1, height 7) costs. */
    private static void costs(String law, int want) {
        FootMaps x = new FootMaps();
        Edges.due("law \"" + law + "\"", Edges.law(x, law), 0);
        x.force(0);
        x.walker(0, 1);
        x.walker(12, 5);
        x.cell(12, 2, 9);
        x.cell(13, 1, 7);
        x.terms(0, 6);
        x.terms(2, 4);
        Edges.due("what is told by \"" + law + "\"", x.asks(1, 2, 0), want);
    }

    /** How far the same walker sees from cell 12. */
    private static void sees(String law, int want) {
        FootMaps x = Edges.under(law, 12);
        Edges.due("how far by \"" + law + "\"", x.of(0, 5), want);
    }

    private static void tapeLength() {
        Edges.says("II", "TEXTS are on a TAPE of at most 400 bytes.");
        String whole = "costs" + Edges.times(394, " ") + "7";
        Edges.due("its length", whole.length(), 400);
        costs(whole, 7);
        FootMaps x = new FootMaps();
        for (int n = 20; n <= 400; n += 20) {
            Edges.due("feed", x.feed(0, 0, 0, 0, 0), n);
        }
        Edges.due("beyond 400", x.feed(0, 0, 0, 0, 0), -1);
        Edges.due("bytes", x.count(5), 400);
        x.end(381);
        Edges.due("to 401", x.feed(0, 0, 0, 0, 0), -1);
        Edges.due("bytes", x.count(5), 381);
        x.end(380);
        Edges.due("to 400", x.feed(0, 0, 0, 0, 0), 400);
        lawFault("bars" + Edges.times(395, " ") + "x", 399);
        lawFault(Edges.times(400, " "), 400);
        lawFault("costs " + Edges.times(394, "z"), 6);
        lawFault(Edges.times(400, "9"), 0);
        lawFault("bars if " + Edges.times(98, "not "), 400);
        lawFault(Edges.times(80, "bars;"), 60);
        lawFault(Edges.times(400, ";"), 0);
        lawFault("bars" + Edges.times(396, ";"), 5);
    }

    private static void tokens() {
        Edges.says("II", "TOKENS: longest rows of letters a .. z, of digits, single other bytes, any blanks (32) between.");
        costs("costs3if kind=1and mood<5or 1=2", 3);
        costs("   costs   3   ;  bars  if   1  =  2  ", 3);
        costs("costs[3]if(1=1)", 3);
        lawFault("costs 1 2", 8);
        lawFault("cost s 1", 0);
        lawFault("costsees 1", 0);
        lawFault("barsa", 0);
        lawFault("barsz", 0);
        lawFault("abars", 0);
        lawFault("zbars", 0);
        lawFault("bars`", 4);
        lawFault("bars{", 4);
        lawFault("bars0", 4);
        lawFault("costs 3a", 7);
        lawFault("costs 3:", 7);
        lawFault("costs 3.", 7);
        lawFault("Bars", 0);
        lawFault("bars IF 1=1", 5);
        lawFault("bars if 1<=2", 10);
        lawFault("bars;;bars", 5);
        lawFault("costs 3 i f 1=1", 8);
        lawFault("costs kindmood", 6);
        for (int other : new int[] {0, 9, 10, 13, 31, 33, 127, 128, 160, 223, 255}) {
            lawFault("bars" + (char) other, 4);
            lawFault((char) other + "bars", 0);
            lawFault("costs" + (char) other + "3", 5);
        }
        costs("costs 90/30", 3);
        costs("costs 10-7", 3);
    }

    private static void clauses() {
        Edges.says("II", "Of both languages: CLAUSE {\";\" CLAUSE}, 12 at most (FAULT at the 13th's first TOKEN).");
        costs(Edges.times(11, "costs 2;") + "costs 7", 7);
        costs("costs 7;" + Edges.times(10, "bars if 1=2;") + "bars if 1=2", 7);
        lawFault(Edges.times(12, "bars;") + "bars", 60);
        lawFault(Edges.times(12, "bars;") + "   bars", 63);
        lawFault(Edges.times(12, "bars;"), 60);
        lawFault(Edges.times(12, "bars;") + "  ", 62);
        lawFault(Edges.times(12, "bars;") + ";", 60);
        lawFault(Edges.times(12, "bars;") + "x", 60);
        lawFault(Edges.times(11, "bars;") + "bars bars", 60);
        lawFault(Edges.times(11, "bars;"), 55);
        lawFault(";bars", 0);
        lawFault("bars;", 5);
        lawFault("bars bars", 5);
        FootMaps x = new FootMaps();
        Edges.due("twelve orders", Edges.orders(x, Edges.times(11, "pass;") + "pass"), 12);
        Edges.due("thirteen orders", Edges.orders(x, Edges.times(12, "pass;") + " pass"), -6);
        Edges.due("fault", x.fault(), 61);
        Edges.due("minutes", x.count(12), 12);
    }

    private static void tests() {
        Edges.says("II", "TEST: BOTH {\"or\" BOTH}. BOTH: PLAIN {\"and\" PLAIN}.");
        costs("costs 5 if 1=1 or 1=1 and 1=2", 5);
        costs("costs 5 if 1=2 and 1=2 or 1=1", 5);
        costs("costs 5 if 1=2 or 1=2 or 1=1", 5);
        costs("costs 5 if 1=1 and 1=1 and 1=2", 1);
        costs("costs 5 if 1=2 or 1=2", 1);
        costs("costs 5 if 1=2" + Edges.times(22, " or 1=2") + " or 1=1", 5);
        costs("costs 5 if 1=1" + Edges.times(22, " and 1=1") + " and 1=2", 1);
        lawFault("bars if", 7);
        lawFault("bars if or 1=1", 8);
        lawFault("bars if 1=1 or", 14);
        lawFault("bars if 1=1 or or 1=1", 15);
        lawFault("bars if 1=1 and", 15);
        lawFault("bars if 1=1 or ;bars", 15);
        lawFault("bars if 1=1 and;bars", 15);
        lawFault("bars if 1=1 and or 1=1", 16);
        lawFault("bars if 1=1 1=1", 12);
    }

    private static void plains() {
        Edges.says("II", "PLAIN: \"not\" PLAIN | \"(\" TEST \")\" | SUM (\"<\" | \">\" | \"=\") SUM.");
        costs("costs 5 if not 1=2", 5);
        costs("costs 5 if not not 1=2", 1);
        costs("costs 5 if " + Edges.times(95, "not ") + "1=2", 5);
        costs("costs 5 if " + Edges.times(96, "not ") + "1=2", 1);
        costs("costs 5 if not 1=1", 1);
        costs("costs 5 if not 1=1 and 1=1", 1);
        costs("costs 5 if not 1=1 or 1=2", 1);
        costs("costs 5 if not 1=2 and 1=1", 5);
        costs("costs 5 if not 1=2 and 1=2", 1);
        costs("costs 5 if not (1=2 and 1=2)", 5);
        costs("costs 5 if (1=1 or 1=1) and 1=2", 1);
        costs("costs 5 if 2<3", 5);
        costs("costs 5 if 3<3", 1);
        costs("costs 5 if 4>3", 5);
        costs("costs 5 if 3>3", 1);
        costs("costs 5 if 3=3", 5);
        costs("costs 5 if 3=4", 1);
        costs("costs 5 if 3=0-3", 1);
        lawFault("bars if not", 11);
        lawFault("bars if not;bars", 11);
        lawFault("bars if (", 9);
        lawFault("bars if (;bars", 9);
        lawFault("bars if (1", 10);
        lawFault("bars if (1;bars", 10);
        lawFault("bars if (1=", 11);
        lawFault("bars if (1=;bars", 11);
        lawFault("bars if (1=1;bars", 12);
        lawFault("bars if ((1=1)", 14);
        lawFault("bars if ((1=1);bars", 14);
        lawFault("bars if (1=1))", 13);
        lawFault("bars if;bars", 7);
        lawFault("bars if 1;bars", 9);
        lawFault("bars if 1=;bars", 10);
        lawFault("bars if ()", 9);
        lawFault("bars if (1=1", 12);
        lawFault("bars if (1=1]", 12);
        lawFault("bars if 1=1)", 11);
        lawFault("bars if (1)=1", 10);
        lawFault("bars if [1=1]", 10);
        lawFault("bars if 1", 9);
        lawFault("bars if 1=", 10);
        lawFault("bars if =1", 8);
        lawFault("bars if 1=1=1", 11);
        lawFault("bars if 1!1", 9);
        lawFault("bars if 1 not 1=1", 10);
    }

    private static void sums() {
        Edges.says("II", "SUM: TERM {(\"+\" | \"-\") TERM}. TERM: PART {(\"*\" | \"/\" | \"%\") PART}.");
        costs("costs 9-3-2", 4);
        costs("costs 2+3*2", 8);
        costs("costs 9-2*3", 3);
        costs("costs 3*2+1", 7);
        costs("costs 16/4/2", 2);
        costs("costs 17%5*3", 6);
        costs("costs 9-6/3+1", 8);
        costs("costs 9-7%4", 6);
        lawFault("costs -1", 6);
        lawFault("costs +1", 6);
        lawFault("costs 3*-1", 8);
        lawFault("costs 3+", 8);
        lawFault("costs 3+;bars", 8);
        lawFault("costs 3*;bars", 8);
        lawFault("costs 3- if 1=1", 9);
        lawFault("costs 3*", 8);
        lawFault("costs 3++1", 8);
        lawFault("costs 3(1)", 7);
    }

    private static void parts() {
        Edges.says("II", "PART: NUMBER (to 1,000) | \"[\" SUM \"]\" | a word, as told.");
        costs("costs 1000-995", 5);
        costs("costs 0+3", 3);
        costs("costs [1+2]*2", 6);
        costs("costs 9-[5-1]", 5);
        costs("costs [mood]", 4);
        lawFault("costs 1000", -1);
        lawFault("costs 1001", 6);
        lawFault("costs 9999", 6);
        lawFault("costs 10000", 6);
        lawFault("costs 10001", 6);
        lawFault("costs 1000000", 6);
        lawFault("costs 999", -1);
        lawFault("costs 2147483648", 6);
        lawFault("costs 4294967297", 6);
        lawFault("costs 18446744073709551617", 6);
        lawFault("costs 1+1001", 8);
        lawFault("costs []", 7);
        lawFault("costs [", 7);
        lawFault("costs [;bars", 7);
        lawFault("costs [3", 8);
        lawFault("costs [3;bars", 8);
        lawFault("costs [3 if 1=1", 9);
        lawFault("costs [[3]", 10);
        lawFault("costs [3]]", 9);
        lawFault("costs [3)", 8);
        lawFault("costs 3]", 7);
        lawFault("costs (3)", 6);
        lawFault("costs moods", 6);
        lawFault("costs if", 6);
    }

    private static void fiftyParts() {
        Edges.says("II", "50 PARTS that are NUMBERS and words (FAULT at the 51st)");
        costs("costs 56-[1" + Edges.times(48, "+1") + "]", 7);
        lawFault("costs 1" + Edges.times(50, "+1"), 106);
        lawFault("costs mood" + Edges.times(49, "+mood"), -1);
        lawFault("costs mood" + Edges.times(50, "+mood"), 256);
        lawFault("costs mood" + Edges.times(24, "+mood+1") + "+1", -1);
        lawFault("costs mood" + Edges.times(24, "+mood+1") + "+1+1", 181);
        lawFault("costs 1" + Edges.times(49, "+1") + "+x", 106);
        lawFault("costs 1" + Edges.times(49, "+1") + "+1001", 106);
        lawFault("costs 1" + Edges.times(49, "+1") + "+", 106);
        lawFault("costs 1" + Edges.times(49, "+1") + "+[", 107);
        String ten = "costs 1+1+1+1+1+1+1+1+1 if 1=";
        String threePerClause = "costs 1 if 1=1;";
        lawFault(Edges.times(11, threePerClause) + "costs 1" + Edges.times(16, "+1"), -1);
        lawFault(Edges.times(11, threePerClause) + "costs 1" + Edges.times(17, "+1"), 165 + 6 + 34);
        lawFault(ten + "1" + Edges.times(39, "+1"), -1);
        lawFault(ten + "1" + Edges.times(40, "+1"), ten.length() + 80);
        costs("costs [1]" + Edges.times(49, "+[1]"), 9);
        FootMaps x = new FootMaps();
        Edges.due("fifty in orders", Edges.orders(x, "pass if 1" + Edges.times(48, "+1") + "=49"), 1);
        Edges.due("fifty-one in orders", Edges.orders(x, "pass if 1" + Edges.times(49, "+1") + "=50"), -6);
        Edges.due("its fault", x.fault(), 8 + 100);
        Edges.due("fifty in another text", Edges.orders(x, "pass if 1" + Edges.times(48, "+1") + "=49"), 1);
    }

    private static void brackets() {
        Edges.says("II", "8 brackets of both kinds within one another (FAULT at the 9th) at most.");
        costs("costs " + Edges.times(8, "[") + "3" + Edges.times(8, "]"), 3);
        lawFault("costs " + Edges.times(9, "[") + "3" + Edges.times(9, "]"), 14);
        costs("costs 5 if " + Edges.times(8, "(") + "1=1" + Edges.times(8, ")"), 5);
        lawFault("bars if " + Edges.times(9, "(") + "1=1" + Edges.times(9, ")"), 16);
        costs("costs 5 if (((((1=[[[1]]])))))", 5);
        lawFault("bars if (((((1=[[[[1]]]])))))", 18);
        lawFault("bars if ((((([[[[1]]]]=1)))))", 16);
        lawFault("bars if ((((((((([1", 16);
        lawFault("bars if " + Edges.times(9, "not ("), 8 + 8 * 5 + 4);
        costs("costs [1]" + Edges.times(8, "+[1]"), 9);
        costs("costs [[[[[[[[1]]]]]]]]+[[[[[[[[2]]]]]]]]", 3);
        costs("costs 5 if " + Edges.times(9, "(1=1) and ") + "(1=1)", 5);
        costs("costs [[[[[[[[7]]]]]]]] if ((((((((1=1))))))))", 7);
        costs("costs [[[[[[[[7]]]]]]]];bars if ((((((((1=2))))))))", 7);
        costs("costs " + Edges.times(8, "[9-") + "3" + Edges.times(8, "]"), 3);
        costs("costs " + Edges.times(7, "[9-3*") + "[2]" + Edges.times(7, "]"), 9);
        lawFault("costs " + Edges.times(300, "["), 14);
        String eight = Edges.times(8, "[") + "1" + Edges.times(8, "]");
        String tests = Edges.times(8, "(") + "1=1" + Edges.times(8, ")");
        FootMaps x = Edges.with(12);
        Edges.due("eight in orders", Edges.orders(x, "step " + eight + "-1 to " + eight + " if " + tests), 1);
        String[] nine = {"step [" + eight + "] to 1", "step 0 to [" + eight + "]", "pass if (" + tests + ")", "pass if [" + eight + "]=1"};
        int[] ninthAt = {5 + 8, 10 + 8, 8 + 8, 8 + 8};
        for (int i = 0; i < nine.length; i++) {
            Edges.due(nine[i], Edges.orders(x, nine[i]), -6);
            Edges.due("its fault", x.fault(), ninthAt[i]);
        }
    }

    private static void faultPlaces() {
        Edges.says("II", "FAULT: the first TOKEN that can't go on there (the end's: the TEXT's length).");
        lawFault("", 0);
        lawFault(" ", 1);
        lawFault("costs", 5);
        lawFault("costs ", 6);
        lawFault("costs 1 if   ", 13);
        lawFault("costs ] [", 6);
        lawFault("costs   ]", 8);
        lawFault("x y z", 0);
        lawFault("  x", 2);
        lawFault("bars;costs kind;costs kund", 22);
        lawFault("bars if 1=1; bars if 1=1; x", 26);
    }

    private static void broken() {
        Edges.says("II", "Beyond 1,000,000,000 either way, or divided by 0 (/ cut towards 0, % what is left then), a SUM, a TEST is BROKEN");
        costs("costs 4;costs " + BILLION, 9);
        costs("costs 4;costs " + BILLION + "+1", 4);
        costs("costs 4;costs 0-" + BILLION, 1);
        costs("costs 4;costs 0-" + BILLION + "-1", 4);
        costs("costs 4;costs 1+" + BILLION, 4);
        costs("costs 4;costs [0-1]-" + BILLION, 4);
        costs("costs 4;costs " + BILLION + "*2", 4);
        costs("costs 4;costs " + BILLION + "*[0-1]", 1);
        costs("costs 4;costs " + BILLION + "*[0-2]", 4);
        costs("costs 4;costs " + BILLION + "+1-" + BILLION, 4);
        costs("costs 4;costs [" + BILLION + "+1]*0+7", 4);
        costs("costs 4;costs " + BILLION + "-" + BILLION + "+7", 7);
        costs("costs 4;costs " + BILLION + "*" + BILLION + "*" + BILLION, 4);
        costs("costs 4;costs 1000" + Edges.times(20, "*1000") + "*0", 4);
        costs("costs 4;costs 512*512*512*512*512*512*512*2+7", 4);
        costs("costs 5 if " + BILLION + ">0", 5);
        costs("costs 5 if " + BILLION + "+1>0", 1);
        costs("costs 5 if 0<" + BILLION + "+1", 1);
        costs("costs 5 if 0-" + BILLION + "<0", 5);
        costs("costs 5 if 0-" + BILLION + "-1<0", 1);
        costs("costs 5 if not " + BILLION + "+1>0", 1);
        costs("costs 4;costs 8/0", 4);
        costs("costs 4;costs 8%0", 4);
        costs("costs 4;costs 0/0", 4);
        costs("costs 4;costs 8/[1-1]+1", 4);
        costs("costs 4;costs 0/8+7", 7);
        costs("costs 5 if 1/0=1", 1);
        costs("costs 5 if not 1/0=1", 1);
        costs("costs 5 if 1=1%0", 1);
        costs("costs [0-7]/2+6", 3);
        costs("costs 7/[0-2]+6", 3);
        costs("costs [0-7]/[0-2]", 3);
        costs("costs [0-7]%2+4", 3);
        costs("costs 7%[0-2]+4", 5);
        costs("costs [0-7]%[0-2]+4", 3);
        costs("costs [0-1]/2+5", 5);
    }

    private static void onlyIfItMatters() {
        Edges.says("II", "(\"or\", \"and\" ask what stands behind only if it can still matter).");
        costs("costs 5 if 1=1 or 1/0=1", 5);
        costs("costs 5 if 1=2 or 1/0=1", 1);
        costs("costs 5 if 1/0=1 or 1=1", 1);
        costs("costs 5 if not (1=2 and 1/0=1)", 5);
        costs("costs 5 if not (1=1 and 1/0=1)", 1);
        costs("costs 5 if not (1/0=1 and 1=2)", 1);
        costs("costs 5 if 1=2 and 1/0=1 or 1=1", 5);
        costs("costs 5 if 1=2 and 1/0=1 and 1/0=1 or 1=1", 5);
        costs("costs 5 if 1=1 or 1/0=1 and 1/0=1 or 1/0=1", 5);
        costs("costs 5 if 1=1 and 1=1 or 1/0=1", 5);
        costs("costs 5 if 1=1 and 1=2 or 1/0=1", 1);
        costs("costs 5 if (1=1 or 1/0=1) and 1=1", 5);
        costs("costs 5 if (1=1 or 1/0=1) and 1/0=1", 1);
        costs("costs 5 if 1=2 or 1=1 or 1/0=1", 5);
        costs("costs 5 if 1=1 or (1/0=1 and (1/0=1 or 1=1))", 5);
    }

    private static void lawsAtMost() {
        Edges.says("II", "LAWS, 6 at most");
        FootMaps x = Edges.with(12);
        for (int law = 0; law < 6; law++) {
            Edges.due("laws", x.count(3), law);
            Edges.due("law " + law, Edges.law(x, "costs " + (law + 2)), law);
        }
        Edges.due("a seventh", Edges.law(x, "costs 9"), -5);
        Edges.due("laws", x.count(3), 6);
        for (int law = 0; law < 6; law++) {
            x.force(law);
            Edges.due("by law " + law, x.asks(0, 1, 0), law + 2);
        }
        Edges.says("II", "one is in FORCE (NONE at first: no CLAUSE)");
        FootMaps y = Edges.with(12);
        Edges.due("in force at first", y.count(11), -1);
        Edges.law(y, "costs 4;sees 3;bars");
        Edges.due("in force behind law()", y.count(11), -1);
        Edges.due("a step costs", y.asks(0, 1, 0), 1);
        Edges.due("it is not barred", y.asks(0, 1, 1), 0);
        Edges.due("one sees", y.of(0, 5), 1);
        Edges.due("force(0)", y.force(0), -1);
        Edges.due("a step costs by the law", y.asks(0, 1, 0), 4);
        Edges.due("it is barred by the law", y.asks(0, 1, 1), 1);
        Edges.due("one sees by the law", y.of(0, 5), 3);
        Edges.due("force(-1)", y.force(-1), 0);
        Edges.due("a step costs without", y.asks(0, 1, 0), 1);
    }

    private static void lawClauses() {
        Edges.says("II", "CLAUSE: ((\"costs\" | \"sees\") SUM | \"bars\") [\"if\" TEST].");
        lawFault("costs 1", -1);
        lawFault("sees 1", -1);
        lawFault("bars", -1);
        lawFault("costs 1 if 1=1", -1);
        lawFault("sees 1 if 1=1", -1);
        lawFault("bars if 1=1", -1);
        lawFault("costs", 5);
        lawFault("costs if 1=1", 6);
        lawFault("sees", 4);
        lawFault("sees;bars", 4);
        lawFault("bars 1", 5);
        lawFault("bars if", 7);
        lawFault("bars if 1=1 if 1=1", 12);
        lawFault("if 1=1", 0);
        lawFault("1", 0);
        lawFault("step 0 to 1", 0);
        lawFault("join 0 with 1", 0);
        lawFault("smear 0 of 1", 0);
        lawFault("pass", 0);
        lawFault("bars times 2", 5);
    }

    private static void lawWords() {
        Edges.says("II", "Words: \"walker\" | \"kind\" | \"height\" | \"rise\" | \"known\" | \"pace\" | \"minute\" | \"mood\".");
        costs("costs walker+2", 3);
        costs("costs kind+2", 3);
        costs("costs height", 7);
        costs("costs rise+5", 3);
        costs("costs known+2", 2);
        costs("costs pace", 5);
        costs("costs minute", 6);
        costs("costs mood", 4);
        for (String word : new String[] {"done", "latest", "at", "mapped", "at 0", "mapped 0", "to", "times", "minutes", "smears"}) {
            lawFault("costs " + word, 6);
        }
        for (String word : new String[] {"costs", "sees", "bars", "if", "or", "and", "not", "step", "join", "smear", "pass", "to", "with", "of", "times"}) {
            lawFault("costs " + word, 6);
        }
        lawFault("costs kind 3", 11);
        lawFault("costs walker 0", 13);
        FootMaps x = Edges.under("costs minute/111;sees mood/3;bars if minute=998 and mood=9", 12);
        x.terms(0, 999);
        x.terms(2, 9);
        Edges.due("by the greatest minute", x.asks(0, 1, 0), 9);
        Edges.due("by the greatest mood", x.of(0, 5), 3);
        Edges.due("not barred at 999", x.asks(0, 1, 1), 0);
        x.terms(0, 998);
        Edges.due("barred at 998", x.asks(0, 1, 1), 1);
    }

    private static void whatIsAsked() {
        Edges.says("II", "\"costs\", \"bars\" are asked of a WALKER and a CELL to which it would step (kind, height: of that; rise: how much higher it is than the CELL it steps from; known: 1, if it is on the SHEET, else 0)");
        FootMaps x = Edges.under("costs 5+rise;bars if rise<0-8 or rise>8 or kind=3", 12);
        x.cell(12, 3, 5);
        x.cell(13, 0, 8);
        x.cell(11, 0, 2);
        Edges.due("higher", x.asks(0, 2, 0), 8);
        Edges.due("lower", x.asks(0, 4, 0), 2);
        Edges.due("the kind it steps from does not bar", x.asks(0, 2, 1), 0);
        x.cell(12, 0, 0);
        x.cell(13, 0, 9);
        Edges.due("nine higher", x.asks(0, 2, 1), 1);
        x.cell(12, 0, 9);
        x.cell(11, 0, 0);
        Edges.due("nine lower", x.asks(0, 4, 1), 1);
        x.cell(11, 0, 1);
        Edges.due("eight lower", x.asks(0, 4, 1), 0);
        FootMaps known = Edges.under("costs 2+known*5;bars if known=1 and mood=1", 12);
        Edges.due("not on the sheet", known.asks(0, 2, 0), 2);
        known.step(0, 2);
        known.cell(12, 3, 3);
        Edges.due("on the sheet with another kind", known.asks(0, 4, 0), 7);
        Edges.due("not barred", known.asks(0, 4, 1), 0);
        known.terms(2, 1);
        Edges.due("barred from what it knows", known.asks(0, 4, 1), 1);
        known.smear(12, 0);
        Edges.due("smeared", known.asks(0, 4, 0), 2);
        Edges.due("not barred from what it does not know", known.asks(0, 4, 1), 0);
        Edges.says("II", "\"sees\" of a WALKER and a CELL from which it would see (rise 0).");
        FootMaps y = Edges.under("sees 2+rise;sees 3 if kind=3 and height=9", 11);
        y.cell(12, 0, 9);
        y.step(0, 2);
        Edges.due("nine higher, and two far", y.of(0, 3), 13);
        y.cell(7, 3, 9);
        y.step(0, 3);
        Edges.due("the kind and height where it comes to", y.of(0, 5), 3);
        Edges.due("it saw three far", y.of(0, 3), 19);
    }

    private static void holding() {
        Edges.says("II", "A CLAUSE HOLDS, if its \"if\" (if it has one) is so, and neither that nor its SUM is BROKEN.");
        costs("costs 3;costs 5", 5);
        costs("costs 3;costs 5 if 1=2", 3);
        costs("costs 3;costs 5 if 1/0=1", 3);
        costs("costs 3;costs 1/0", 3);
        costs("costs 3;costs 1/0 if 1=1", 3);
        costs("costs 1/0", 1);
        sees("sees 3;sees 0 if 1=2", 3);
        sees("sees 3;sees 0 if 1/0=1", 3);
        sees("sees 3;sees 1%0", 3);
        sees("sees 1/0", 1);
        FootMaps x = Edges.under("bars if 1/0=1", 12);
        Edges.due("a broken bar", x.asks(0, 1, 1), 0);
        Edges.due("a step in spite of it", x.step(0, 1), 1);
    }

    private static void costsWithin() {
        Edges.says("II", "A STEP costs what the last \"costs\" that HOLDS tells, 1 .. 9 (else the nearest), 1 without");
        costs("costs 1", 1);
        costs("costs 9", 9);
        costs("costs 0", 1);
        costs("costs 10", 9);
        costs("costs 1000", 9);
        costs("costs 0-1", 1);
        costs("costs 0-1000*1000", 1);
        costs("costs 5;costs 0", 1);
        costs("costs 5;costs 10", 9);
        costs("costs 5;costs 7;costs 3", 3);
        costs("costs 5;costs 7;costs 3 if 1=2", 7);
        costs("costs 5;sees 3;bars if 1=2", 5);
        costs("sees 3", 1);
        costs("costs 5 if 1=2", 1);
    }

    private static void seesWithin() {
        Edges.says("II", "one SEES 0 .. 3 steps far, 1 without: all CELLS that are as many rows and columns together away at most");
        sees("sees 0", 0);
        sees("sees 3", 3);
        sees("sees 4", 3);
        sees("sees 1000", 3);
        sees("sees 0-1", 0);
        sees("costs 3", 1);
        sees("sees 3 if 1=2", 1);
        sees("sees 3;sees 2;sees 0 if 1=2", 2);
        for (int far = 0; far <= 3; far++) {
            for (int cell = 0; cell < 25; cell++) {
                FootMaps x = Edges.under("sees " + far, cell % 5 == 4 ? cell - 1 : cell + 1);
                x.step(0, cell % 5 == 4 ? 2 : 4);
                int seen = 0;
                for (int c = 0; c < 25; c++) {
                    if (Math.abs(c % 5 - cell % 5) + Math.abs(c / 5 - cell / 5) <= far) {
                        seen |= 1 << c;
                    }
                }
                Edges.due("seen from " + cell + " when one sees " + far, x.of(0, 4), seen);
            }
        }
    }

    private static void barred() {
        Edges.says("II", "a WALKER is BARRED from a STEP, if \"bars\" HOLDS.");
        FootMaps x = Edges.under("bars;bars if 1=2", 12);
        for (int way = 1; way <= 4; way++) {
            Edges.due("barred by way " + way, x.asks(0, way, 1), 1);
            Edges.due("a step by way " + way, x.step(0, way), -3);
        }
        Edges.due("it is where it was", x.of(0, 0), 12);
        FootMaps y = Edges.under("bars if walker=1;bars if kind=3;costs 2", 12, 12);
        y.cell(13, 3, 0);
        Edges.due("the first bar", y.step(1, 1), -3);
        Edges.due("the second bar", y.step(0, 2), -3);
        Edges.due("no bar", y.step(0, 1), 2);
    }

    private static void feedCall() {
        Edges.says("10", "Twenty bytes come behind the TAPE, four of each number, the highest first: how many it has.");
        FootMaps x = new FootMaps();
        Edges.due("the first feed", x.feed(0x18030905, 0x02070601, 0x08000000, 0x01010102, 0x02020304), 20);
        Edges.due("cells told", x.row(), 6);
        Edges.due("blots", x.blots(), 1);
        int[][] told = {{24, 3, 9}, {5, 2, 7}, {6, 1, 8}, {0, 0, 0}, {1, 1, 1}, {2, 2, 2}};
        for (int[] cell : told) {
            Edges.due("kind of " + cell[0], x.land(cell[0], 0), cell[1]);
            Edges.due("height of " + cell[0], x.land(cell[0], 1), cell[2]);
        }
        FootMaps y = new FootMaps();
        y.feed(-1, -1, -1, -1, -1);
        Edges.due("bytes of 255", y.row(), 0);
        Edges.due("they are blots", y.blots(), 7);
        FootMaps z = new FootMaps();
        z.feed(0, 0, 0, 0, 0);
        z.end(1);
        Edges.due("behind what end() left", z.feed(0x02090000, 0, 0, 0, 0), 21);
        z.end(3);
        Edges.due("one cell", z.row(), 1);
        Edges.due("its kind", z.land(0, 0), 2);
        Edges.due("its height", z.land(0, 1), 9);
        Edges.says("10", "NONE, if there would be more than 400.");
        FootMaps full = new FootMaps();
        for (int n = 1; n <= 20; n++) {
            Edges.due("feed " + n, full.feed(0, 0, 0, 0, 0), 20 * n);
        }
        Edges.due("beyond", full.feed(1, 1, 1, 1, 1), -1);
        Edges.due("bytes", full.count(5), 400);
        full.end(381);
        Edges.due("beyond by one", full.feed(1, 1, 1, 1, 1), -1);
        Edges.due("not a part of it", full.count(5), 381);
        full.end(380);
        Edges.due("just full", full.feed(1, 1, 1, 1, 1), 400);
        Edges.due("that is no refusal", full.status(), 0);
        Edges.due("that is not counted", full.count(6), 0);
    }

    private static void endCall() {
        Edges.says("11", "The TAPE has its first n bytes alone: n.");
        FootMaps x = new FootMaps();
        Edges.due("end(0) of an empty tape", x.end(0), 0);
        Edges.tape(x, "bars if 1=2 or");
        Edges.due("end(14)", x.end(14), 14);
        Edges.due("end(11)", x.end(11), 11);
        Edges.due("bytes", x.count(5), 11);
        Edges.due("the first ones are a law", x.law(), 0);
        Edges.tape(x, "bars");
        Edges.due("end(0)", x.end(0), 0);
        Edges.due("nothing is left", x.row(), -6);
        Edges.says("11", "NONE, if it has not so many, or n is below 0.");
        Edges.tape(x, "bars");
        for (int n : new int[] {5, 20, 400, 401, -1, Edges.LEAST, Edges.MOST}) {
            Edges.due("end(" + n + ")", x.end(n), -1);
            Edges.due("bytes", x.count(5), 4);
        }
        Edges.due("it is a law still", x.law(), 1);
        Edges.due("end(1) of an empty tape", x.end(1), -1);
    }

    private static void rows() {
        Edges.says("IV", "A ROW: the TAPE's bytes by threes: a CELL, a KIND, a HEIGHT; one that can't be, one within which the TAPE ends is a BLOT: nothing.");
        FootMaps x = new FootMaps();
        Edges.tape(x, 0, 3, 9, 24, 1, 0, 25, 1, 1, 1, 4, 1, 2, 1, 10, 3, 2);
        Edges.due("cells told", x.row(), 2);
        Edges.due("blots", x.blots(), 4);
        Edges.due("kind of 0", x.land(0, 0), 3);
        Edges.due("height of 0", x.land(0, 1), 9);
        Edges.due("kind of 24", x.land(24, 0), 1);
        for (int cell = 1; cell <= 3; cell++) {
            Edges.due("kind of " + cell, x.land(cell, 0), 0);
            Edges.due("height of " + cell, x.land(cell, 1), 0);
        }
        Edges.tape(x, 128, 0, 0, 255, 0, 0, 4, 128, 0, 4, 0, 255, 4, 2, 5);
        Edges.due("one behind four blots of bytes above 127", x.row(), 1);
        Edges.due("blots", x.blots(), 4);
        Edges.due("kind of 4", x.land(4, 0), 2);
        Edges.due("height of 4", x.land(4, 1), 5);
    }

    private static void rowCall() {
        Edges.says("12", "A ROW, the TAPE is empty then: how many CELLS were told.");
        FootMaps x = new FootMaps();
        Edges.tape(x, 7, 3, 9);
        Edges.good("one cell", x, 1, x.row());
        Edges.due("bytes", x.count(5), 0);
        int[] all = new int[75];
        for (int cell = 0; cell < 25; cell++) {
            all[3 * cell] = cell;
            all[3 * cell + 1] = cell % 4;
            all[3 * cell + 2] = cell % 10;
        }
        Edges.tape(x, all);
        Edges.good("all cells", x, 25, x.row());
        for (int cell = 0; cell < 25; cell++) {
            Edges.due("kind of " + cell, x.land(cell, 0), cell % 4);
            Edges.due("height of " + cell, x.land(cell, 1), cell % 10);
        }
        Edges.tape(x, 7);
        Edges.good("blots alone", x, 0, x.row());
        Edges.due("the tape is empty, too", x.count(5), 0);
        Edges.tape(x, 25, 0, 0);
        Edges.good("one that can't be", x, 0, x.row());
        Edges.tape(x, new int[400]);
        Edges.good("a full tape", x, 133, x.row());
        Edges.due("its last byte", x.blots(), 1);
        Edges.says("12", "-6 the TAPE is empty.");
        Edges.refused("an empty tape", x, -6, x.row());
        Edges.tape(x, 1, 1, 1);
        x.end(0);
        Edges.refused("one that was ended at 0", x, -6, x.row());
        Edges.due("how often", x.count(10), 2);
        Edges.due("fault() is not told by rows", x.fault(), -1);
    }

    private static void blotsCall() {
        Edges.says("13", "How many BLOTS the latest row() had that was not REFUSED (0 ahead of any).");
        FootMaps x = new FootMaps();
        Edges.due("ahead of any", x.blots(), 0);
        x.row();
        Edges.due("behind one that was refused", x.blots(), 0);
        Edges.tape(x, 25, 0, 0, 0, 4, 0, 0);
        x.row();
        Edges.due("three", x.blots(), 3);
        x.row();
        Edges.due("three behind one that was refused", x.blots(), 3);
        Edges.tape(x, 1, 1, 1);
        Edges.due("three while the tape has bytes", x.blots(), 3);
        x.row();
        Edges.due("none", x.blots(), 0);
        Edges.tape(x, 1, 1);
        x.row();
        Edges.due("two bytes alone", x.blots(), 1);
        x.image(0);
        x.back(0);
        Edges.due("behind back()", x.blots(), 1);
    }

    private static void lawCall() {
        Edges.says("14", "The TAPE, which is empty then, becomes a LAW: its number.");
        FootMaps x = Edges.with(12);
        for (int law = 0; law < 6; law++) {
            Edges.tape(x, "costs " + (law + 3));
            Edges.good("law " + law, x, law, x.law());
            Edges.due("bytes", x.count(5), 0);
        }
        Edges.says("14", "-5 (ahead of reading it; the TAPE is empty then, too)");
        Edges.orders(x, "passs");
        Edges.due("fault", x.fault(), 0);
        Edges.refused("a seventh", x, -5, Edges.law(x, "costs 1"));
        Edges.due("bytes", x.count(5), 0);
        Edges.due("laws", x.count(3), 6);
        Edges.refused("a seventh that can't be", x, -5, Edges.law(x, "costs 1 1"));
        Edges.due("it was not read", x.fault(), 0);
        Edges.due("bytes", x.count(5), 0);
        Edges.refused("a seventh from an empty tape", x, -5, x.law());
        Edges.due("counted as -5", x.count(9), 3);
        Edges.says("14", "-6 (blanks alone: FAULT at the end).");
        FootMaps y = new FootMaps();
        Edges.refused("an empty tape", y, -6, y.law());
        Edges.due("its fault", y.fault(), 0);
        Edges.refused("one blank", y, -6, Edges.law(y, " "));
        Edges.due("its fault", y.fault(), 1);
        Edges.refused("blanks alone", y, -6, Edges.law(y, Edges.times(400, " ")));
        Edges.due("their fault", y.fault(), 400);
        Edges.tape(y, "costs x");
        Edges.refused("a fault", y, -6, y.law());
        Edges.due("bytes", y.count(5), 0);
        Edges.due("laws", y.count(3), 0);
    }

    private static void faultCall() {
        Edges.says("16", "FAULT of the latest law(), orders() that read a TEXT: its place; NONE without.");
        FootMaps x = new FootMaps();
        Edges.due("ahead of any", x.fault(), -1);
        Edges.law(x, "bars x");
        Edges.due("of a law", x.fault(), 5);
        Edges.tape(x, "bars if");
        Edges.due("while the tape has bytes", x.fault(), 5);
        x.row();
        Edges.due("behind a row", x.fault(), 5);
        Edges.law(x, "bars");
        Edges.due("of a law that could be read", x.fault(), -1);
        Edges.orders(x, "pass  x");
        Edges.due("of orders", x.fault(), 6);
        Edges.orders(x, "pass");
        Edges.due("of orders that could be read", x.fault(), -1);
        Edges.law(x, "x");
        Edges.orders(x, "step 0 to 1");
        Edges.due("of orders that could be read, but not run", x.fault(), -1);
        Edges.orders(x, "pass if 1");
        for (int law = 1; law < 6; law++) {
            Edges.law(x, "bars");
        }
        Edges.due("of the latest", x.fault(), -1);
        Edges.orders(x, "pass if 1");
        Edges.law(x, "bars");
        Edges.due("behind a law for which there was no room", x.fault(), 9);
    }

    private static void forceCall() {
        Edges.says("18", "A LAW is in FORCE (NONE: none): which was.");
        FootMaps x = Edges.with(12);
        Edges.good("force(-1) ahead of any", x, -1, x.force(-1));
        for (int law = 0; law < 6; law++) {
            Edges.law(x, "costs " + (law + 2));
        }
        Edges.good("force(0)", x, -1, x.force(0));
        Edges.due("in force", x.count(11), 0);
        Edges.good("force(5)", x, 0, x.force(5));
        Edges.due("by the last law", x.asks(0, 1, 0), 7);
        Edges.good("force(5) once more", x, 5, x.force(5));
        Edges.good("force(-1)", x, 5, x.force(-1));
        Edges.due("in force", x.count(11), -1);
        Edges.due("without a law", x.asks(0, 1, 0), 1);
        Edges.says("18", "-2.");
        x.force(2);
        for (int law : new int[] {6, 7, -2, Edges.LEAST, Edges.MOST}) {
            Edges.refused("force(" + law + ")", x, -2, x.force(law));
            Edges.due("in force", x.count(11), 2);
        }
        FootMaps y = new FootMaps();
        Edges.refused("force(0) without laws", y, -2, y.force(0));
        Edges.law(y, "bars");
        Edges.refused("force(1) with one law", y, -2, y.force(1));
    }
}
