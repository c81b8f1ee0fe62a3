import java.lang.reflect.InvocationTargetException;
import java.lang.reflect.Method;
import java.util.ArrayList;
import java.util.Arrays;
import java.util.List;
import java.util.Random;

/** Long drawn runs of calls on a FootMaps and on the Model: every answer must be the same. */
public final class ModelTest {
    /** Each call with what its numbers are: the letters are those of number(). */
    private static final String[] CALLS = {
        "cell ckh", "cell ckh", "cell ckh", "land c2", "walker cp", "of w5", "of w5", "sheet wc", "asks wd1",
        "asks wd1", "wants wW", "wants wW", "wants wW", "terms tv", "blots ", "fault ", "stopped ", "force l",
        "force l", "step wd", "step wd", "step wd", "step wd", "step wd", "step wd", "step wd", "step wd",
        "step wd", "step wd", "join ww", "join ww", "join ww", "smear cw", "smear cw", "pass ", "undo ", "undo ",
        "way wci", "way wci", "sure wci", "sure wci", "tour wi", "tour wi", "tour wi", "meet ww1", "stale w",
        "both i", "glimpse dq", "forget ", "yard ", "look 1", "reach w", "cover 1", "few fn", "compare lwc",
        "compare lwc", "days sD", "drawn w1", "drawn w1", "image 1", "back 1", "count C", "status ",
        "feed xxxxx", "end e", "row ", "law ", "orders ",
    };

    private final Random random;
    private final FootMaps real = new FootMaps();
    private final Model model = new Model();
    private final List<String> log = new ArrayList<>();

    private ModelTest(long seed) {
        random = new Random(seed);
    }

    public static void main(String[] args) {
        int runs = args.length > 0 ? Integer.parseInt(args[0]) : 400;
        long first = args.length > 1 ? Long.parseLong(args[1]) : 0;
        int wrong = 0;
        for (long seed = first; seed < first + runs && wrong < 5; seed++) {
            ModelTest test = new ModelTest(seed);
            String fault = test.run();
            if (fault != null) {
                wrong++;
                System.out.println("seed " + seed + ": " + fault);
                int from = Math.max(0, test.log.size() - 40);
                test.log.subList(from, test.log.size()).forEach(line -> System.out.println("    " + line));
            }
        }
        System.out.println(runs + " drawn runs, " + wrong + " of them wrong");
        if (wrong > 0) {
            System.exit(1);
        }
    }

    private int calls = 0;

    private String run() {
        String fault = null;
        int walkers = random.nextInt(5);
        for (int w = 0; w < walkers && fault == null; w++) {
            fault = call("walker", random.nextInt(25), 1 + random.nextInt(9));
        }
        if (fault == null && random.nextInt(4) > 0) {
            fault = land();
        }
        while (fault == null && calls < 490) {
            int what = random.nextInt(20);
            if (what == 0) {
                fault = text(true);
            } else if (what == 1) {
                fault = text(false);
            } else if (what == 2 && random.nextInt(8) == 0) {
                fault = land();
            } else {
                String[] call = CALLS[random.nextInt(CALLS.length)].split(" ");
                String numbers = call.length > 1 ? call[1] : "";
                // a rare call, because it lets go of all that can be undone
                if ((call[0].equals("terms") || call[0].equals("back")) && random.nextInt(3) > 0) {
                    continue;
                }
                fault = call(call[0], numbers.chars().map(this::number).toArray());
            }
        }
        return fault;
    }

    private String call(String name, int... numbers) {
        calls++;
        Class<?>[] types = new Class<?>[numbers.length];
        Arrays.fill(types, int.class);
        Object[] boxed = Arrays.stream(numbers).boxed().toArray();
        try {
            Method due = Model.class.getDeclaredMethod(name, types);
            Method got = FootMaps.class.getDeclaredMethod(name, types);
            Object d = due.invoke(model, boxed);
            Object g = got.invoke(real, boxed);
            log.add(name + Arrays.toString(numbers) + " = " + g);
            return d.equals(g) ? null : name + Arrays.toString(numbers) + " answered " + g + ", due is " + d;
        } catch (InvocationTargetException e) {
            e.getCause().printStackTrace(System.out);
            return name + Arrays.toString(numbers) + " threw " + e.getCause();
        } catch (ReflectiveOperationException e) {
            return name + Arrays.toString(numbers) + ": " + e;
        }
    }

    private int number(int letter) {
        if (random.nextInt(150) == 0) {
            int[] odd = {Integer.MIN_VALUE, Integer.MAX_VALUE, -2, -1, 0, 1000, 31, 32, 64};
            return odd[random.nextInt(odd.length)];
        }
        return switch (letter) {
            case 'c' -> between(random.nextInt(20) == 0 ? -1 : 0, random.nextInt(20) == 0 ? 25 : 24);
            case 'k' -> random.nextInt(20) == 0 ? 4 : between(0, 3);
            case 'q' -> between(0, 4);
            case 'h' -> random.nextInt(20) == 0 ? 10 : between(0, 9);
            case 'p' -> between(0, 10);
            case 'w' -> random.nextInt(10) == 0 ? between(-1, 4) : between(0, 3);
            case 'd' -> random.nextInt(10) == 0 ? between(-1, 5) : between(1, 4);
            case 'W' -> wanted();
            case 't' -> between(-1, 3);
            case 'v' -> random.nextInt(3) == 0 ? between(-1, 1000) : between(0, 11);
            case 'l' -> between(-1, random.nextInt(4) == 0 ? 6 : 2);
            case 'i' -> random.nextInt(3) == 0 ? -1 : between(-2, random.nextInt(5) == 0 ? 20 : 5);
            case 'f' -> between(0, 21);
            case 'n' -> between(-1, 100);
            case 's' -> random.nextInt(20) == 0 ? 1000001 : between(0, 1000000);
            case 'D' -> between(0, 61);
            case 'C' -> between(-1, 15);
            case 'x' -> random.nextInt();
            case 'e' -> random.nextInt(3) == 0 ? 0 : between(-1, 60);
            case '1' -> random.nextInt(10) == 0 ? between(-1, 2) : between(0, 1);
            case '2' -> between(-1, 3);
            case '5' -> between(-1, 6);
            default -> throw new IllegalStateException("" + (char) letter);
        };
    }

    private int between(int low, int high) {
        return low + random.nextInt(high - low + 1);
    }

    private int wanted() {
        int bits = random.nextInt(30) == 0 ? random.nextInt() : 0;
        int cells = random.nextInt(8);
        for (int n = 0; n < cells; n++) {
            bits |= 1 << random.nextInt(random.nextInt(30) == 0 ? 26 : 25);
        }
        return bits;
    }

    private String land() {
        byte[] bytes = new byte[3 * (1 + random.nextInt(30)) + (random.nextInt(4) == 0 ? 1 : 0)];
        for (int i = 0; i < bytes.length; i++) {
            int most = i % 3 == 0 ? 24 : i % 3 == 1 ? 3 : 9;
            bytes[i] = (byte) (random.nextInt(40) == 0 ? random.nextInt(256) : random.nextInt(most + 1));
        }
        String fault = onTape(bytes);
        return fault != null ? fault : call("row");
    }

    private String onTape(byte[] bytes) {
        String fault = call("end", 0);
        for (int at = 0; at < bytes.length && fault == null; at += 20) {
            int[] five = new int[5];
            for (int i = 0; i < 20; i++) {
                int b = at + i < bytes.length ? bytes[at + i] & 255 : 0;
                five[i / 4] |= b << 24 - 8 * (i % 4);
            }
            fault = call("feed", five);
        }
        return fault != null ? fault : call("end", Math.min(bytes.length, 400));
    }

    private String text(boolean orders) {
        String text = new DrawnText(random, orders).draw();
        log.add("\"" + text + "\"");
        byte[] bytes = text.getBytes(java.nio.charset.StandardCharsets.ISO_8859_1);
        String fault = onTape(bytes);
        if (fault == null) {
            fault = call(orders ? "orders" : "law");
        }
        if (fault == null) {
            fault = call("fault");
        }
        if (fault == null && orders) {
            fault = call("stopped");
        }
        if (fault == null && !orders && random.nextInt(3) > 0) {
            fault = call("force", number('l'));
        }
        return fault;
    }
}
