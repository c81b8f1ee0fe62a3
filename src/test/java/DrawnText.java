import java.util.ArrayList;
import java.util.List;
import java.util.Random;

/** Texts of both languages by draws, most of them without a fault. */
final class DrawnText {
    private final Random random;
    private final boolean orders;
    private final List<String> tokens = new ArrayList<>();

    DrawnText(Random random, boolean orders) {
        this.random = random;
        this.orders = orders;
    }

    String draw() {
        int clauses = random.nextInt(25) == 0 ? 11 + random.nextInt(3) : 1 + random.nextInt(5);
        for (int n = 0; n < clauses; n++) {
            if (n > 0) {
                put(";");
            }
            clause(clauses < 11);
        }
        for (int n = random.nextInt(4) == 0 ? 1 + random.nextInt(2) : 0; n > 0; n--) {
            spoil();
        }
        return written();
    }

    private void put(String... some) {
        tokens.addAll(List.of(some));
    }

    private String one(String... some) {
        return some[random.nextInt(some.length)];
    }

    private void clause(boolean rich) {
        if (orders) {
            order(rich);
        } else {
            String what = one("costs", "costs", "sees", "bars");
            put(what);
            if (!what.equals("bars")) {
                sum(rich ? 2 : 0);
            } else if (rich || random.nextBoolean()) {
                put("if");
                test(2);
                return;
            }
        }
        if (rich && random.nextInt(2) == 0) {
            put("if");
            test(random.nextInt(12) == 0 ? 6 : 2);
        }
    }

    private void order(boolean rich) {
        String what = one("step", "step", "step", "join", "smear", "pass");
        put(what);
        if (what.equals("step")) {
            near(0, 3);
            put("to");
            near(1, 4);
        } else if (what.equals("join")) {
            near(0, 3);
            put("with");
            near(0, 3);
        } else if (what.equals("smear")) {
            if (random.nextInt(3) > 0) {
                put("at", "" + random.nextInt(4));
            } else {
                near(0, 24);
            }
            put("of");
            near(0, 3);
        }
        if (random.nextInt(4) == 0) {
            put("times", "" + random.nextInt(random.nextInt(3) == 0 ? 22 : 5));
        }
        if (what.equals("join") && random.nextBoolean()) {
            put("if", "at", tokens.get(tokens.size() - 3), "=", "at", tokens.get(tokens.size() - 1));
        }
    }

    /** Mostly a number that can be, so that orders are often run to their end. */
    private void near(int low, int high) {
        int n = low + random.nextInt(high - low + 1);
        switch (random.nextInt(8)) {
            case 0 -> put("[", "done", "+", "" + n, "]", "%", "" + (high + 1));
            case 1 -> sum(1);
            case 2 -> put("" + n, "*", "1");
            default -> put("" + n);
        }
    }

    private void sum(int deep) {
        part(deep);
        for (int n = deep > 0 ? random.nextInt(3) : 0; n > 0; n--) {
            put(one("+", "-", "*", "/", "%", "+", "*"));
            part(deep - 1);
        }
    }

    private void part(int deep) {
        if (deep > 0 && random.nextInt(5) == 0) {
            put("[");
            sum(random.nextInt(20) == 0 ? deep + 4 : deep - 1);
            put("]");
        } else if (random.nextBoolean()) {
            put(one("0", "1", "2", "3", "4", "5", "9", "007", "1000", "999", "" + random.nextInt(1002)));
        } else if (orders) {
            String word = one("minute", "done", "latest", "at", "mapped", "kind");
            put(word);
            if (word.equals("kind")) {
                put("" + random.nextInt(random.nextInt(10) == 0 ? 27 : 25));
            } else if (word.equals("at") || word.equals("mapped")) {
                put("" + random.nextInt(random.nextInt(10) == 0 ? 5 : 4));
            }
        } else {
            put(one("walker", "kind", "height", "rise", "known", "pace", "minute", "mood"));
        }
    }

    private void test(int deep) {
        plain(deep);
        for (int n = deep > 0 ? random.nextInt(3) : 0; n > 0; n--) {
            put(one("and", "or"));
            plain(deep - 1);
        }
    }

    private void plain(int deep) {
        while (random.nextInt(5) == 0) {
            put("not");
        }
        if (deep > 0 && random.nextInt(3) == 0) {
            put("(");
            test(deep - 1);
            put(")");
        } else {
            sum(deep > 0 ? 1 : 0);
            put(one("<", ">", "="));
            sum(deep > 0 ? 1 : 0);
        }
    }

    private void spoil() {
        int at = random.nextInt(tokens.size());
        switch (random.nextInt(4)) {
            case 0 -> tokens.remove(at);
            case 1 -> tokens.add(at, tokens.get(random.nextInt(tokens.size())));
            case 2 -> tokens.set(at, one("if", "not", "(", "[", "]", ")", ";", "times", "X", "\t", "cost", "1001",
                "99999999999", "to", "\u00ff", "at", "-", "or", "walker", "done"));
            default -> {
                for (int n = random.nextInt(12); n > 0; n--) {
                    tokens.add(at, one("[", "(", "not"));
                }
            }
        }
        if (tokens.isEmpty()) {
            tokens.add(one("", " ", ";"));
        }
    }

    private String written() {
        StringBuilder b = new StringBuilder();
        String blank = random.nextInt(3) == 0 ? " " : "";
        for (String t : tokens) {
            boolean mustPart = b.length() > 0 && !t.isEmpty()
                && (alike(b.charAt(b.length() - 1), t.charAt(0)));
            b.append(mustPart && random.nextInt(200) > 0 ? " " : blank).append(t);
        }
        if (random.nextInt(10) == 0) {
            b.append("  ");
        }
        return b.toString();
    }

    private static boolean alike(char a, char b) {
        return Character.isLowerCase(a) && Character.isLowerCase(b) || Character.isDigit(a) && Character.isDigit(b);
    }
}
