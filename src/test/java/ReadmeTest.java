import java.io.IOException;
import java.lang.reflect.Method;
import java.nio.file.Files;
import java.nio.file.Path;
import java.util.Arrays;
import java.util.regex.Matcher;
import java.util.regex.Pattern;

/** Runs the calls that README.md shows: each answers the number that its comment begins with. */
public final class ReadmeTest {
    private static final Pattern MADE = Pattern.compile("FootMaps maps = new FootMaps\\(\\);");
    private static final Pattern CALL = Pattern.compile("maps\\.(\\w+)\\(([^)]*)\\);\\s*// (-?\\d+): .*");

    private ReadmeTest() {
    }

    public static void main(String[] args) throws IOException, ReflectiveOperationException {
        FootMaps maps = null;
        int calls = 0;
        int wrong = 0;
        for (String line : Files.readAllLines(Path.of("README.md"))) {
            if (MADE.matcher(line).matches()) {
                maps = new FootMaps();
            } else if (line.startsWith("maps.")) {
                Matcher call = CALL.matcher(line);
                calls++;
                if (maps == null || !call.matches()) {
                    wrong++;
                    System.out.println("README: can't be run: " + line);
                } else if (answer(maps, call.group(1), call.group(2)) != Long.parseLong(call.group(3))) {
                    wrong++;
                    System.out.println("README: answered otherwise: " + line);
                }
            }
        }
        System.out.println(calls + " calls of README.md, " + wrong + " wrong");
        if (wrong > 0 || calls == 0) {
            System.exit(1);
        }
    }

    private static long answer(FootMaps maps, String name, String list) throws ReflectiveOperationException {
        Object[] numbers = list.isBlank() ? new Object[0]
            : Arrays.stream(list.split(",")).map(String::trim).map(ReadmeTest::number).toArray();
        Class<?>[] types = new Class<?>[numbers.length];
        Arrays.fill(types, int.class);
        Method method = FootMaps.class.getMethod(name, types);
        return ((Number) method.invoke(maps, numbers)).longValue();
    }

    private static Integer number(String text) {
        return text.equals("FootMaps.NONE") ? Integer.valueOf(FootMaps.NONE) : Integer.decode(text);
    }
}
