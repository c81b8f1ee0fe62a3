import java.lang.reflect.InvocationTargetException;
import java.lang.reflect.Method;
import java.lang.reflect.Modifier;
import java.util.ArrayList;
import java.util.Arrays;
import java.util.Comparator;
import java.util.List;
import java.util.Random;

/**
 * LANGUAGE.md, rule 7: "No call may ever throw or fail to end, for any arguments in any state".
 * Drawn calls with numbers from everywhere, and tapes of tokens and of bytes without any sense;
 * what they answer is the other tests' matter.
 */
public final class AnyCallTest {
    private static final int RUNS = 120;
    private static final int CALLS = 2000;
    private static final String[] TOKENS = ("costs sees bars if or and not walker kind height rise known pace minute mood "
        + "step join smear pass to with of times done latest at mapped 0 1 2 3 4 5 9 20 21 24 25 999 1000 1001 "
        + "( ) [ ] < > = + - * / % ; ; ; if if").split(" ");
    private static final int[] ODD = {Integer.MIN_VALUE, Integer.MIN_VALUE + 1, Integer.MAX_VALUE, -6, -2, -1, 5, 6, 9,
        10, 20, 21, 24, 25, 32, 60, 61, 99, 100, 400, 401, 999, 1000, 1000000, 1000001, 1 << 25, (1 << 25) - 1};

    private final Random random;
    private final FootMaps maps = new FootMaps();

    private AnyCallTest(long seed) {
        random = new Random(seed);
    }

    public static void main(String[] args) throws ReflectiveOperationException {
        List<Method> face = new ArrayList<>();
        for (Method method : FootMaps.class.getDeclaredMethods()) {
            if (Modifier.isPublic(method.getModifiers())) {
                face.add(method);
            }
        }
        face.sort(Comparator.comparing(Method::getName));
        int wrong = 0;
        for (int seed = 0; seed < RUNS && wrong < 5; seed++) {
            String thrown = new AnyCallTest(seed).run(face);
            if (thrown != null) {
                wrong++;
                System.out.println("seed " + seed + ": " + thrown);
            }
        }
        System.out.println(RUNS + " runs of any calls, " + wrong + " of them threw");
        if (wrong > 0) {
            System.exit(1);
        }
    }

    private String run(List<Method> face) throws ReflectiveOperationException {
        for (int n = 0; n < CALLS; n++) {
            if (random.nextInt(8) == 0) {
                readAnyTape();
            }
            Method method = face.get(random.nextInt(face.size()));
            Object[] numbers = new Object[method.getParameterCount()];
            Arrays.setAll(numbers, i -> number());
            try {
                method.invoke(maps, numbers);
            } catch (InvocationTargetException e) {
                return method.getName() + Arrays.toString(numbers) + " threw " + e.getCause();
            }
        }
        return null;
    }

    private int number() {
        switch (random.nextInt(6)) {
            case 0:
                return ODD[random.nextInt(ODD.length)];
            case 1:
                return random.nextInt();
            default:
                return random.nextInt(5);
        }
    }

    private void readAnyTape() {
        boolean orders = random.nextBoolean();
        Edges.tape(maps, anyBytes(orders));
        if (orders) {
            maps.orders();
        } else {
            maps.force(maps.law());
            maps.reach(random.nextInt(4));
        }
    }

    private int[] anyBytes(boolean orders) {
        switch (random.nextInt(6)) {
            case 0:
                return random.ints(random.nextInt(401), 0, 256).toArray();
            case 1:
                return signs(tokens());
            case 2:
                return signs(nested());
            case 3:
                return signs((orders ? "pass;" : "sees 0/mood;").repeat(10 + random.nextInt(5)) + "bars");
            default:
                return signs(new DrawnText(random, orders).draw());
        }
    }

    private static int[] signs(String text) {
        return text.chars().limit(400).toArray();
    }

    private String tokens() {
        StringBuilder text = new StringBuilder();
        int tokens = random.nextInt(100);
        for (int n = 0; n < tokens; n++) {
            text.append(TOKENS[random.nextInt(TOKENS.length)]).append(random.nextBoolean() ? " " : "");
        }
        return text.toString();
    }

    /** As deep as it may be and deeper, with as much waiting ahead of each bracket as can be. */
    private String nested() {
        int depth = random.nextInt(11);
        if (random.nextBoolean()) {
            return "bars if 9%2<" + "9-9*[".repeat(depth) + "1%mood" + "]".repeat(depth);
        }
        return "bars if " + "not(1=2 or ".repeat(depth) + "1<2" + ")".repeat(depth);
    }
}
