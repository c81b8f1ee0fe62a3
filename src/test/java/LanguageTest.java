import java.io.IOException;
import java.lang.management.ManagementFactory;
import java.lang.reflect.Field;
import java.lang.reflect.Member;
import java.lang.reflect.Method;
import java.lang.reflect.Modifier;
import java.nio.file.Files;
import java.nio.file.Path;
import java.util.ArrayList;
import java.util.Arrays;
import java.util.HashSet;
import java.util.List;
import java.util.Set;
import java.util.TreeSet;
import java.util.regex.Matcher;
import java.util.regex.Pattern;

/** What of LANGUAGE.md a plain look at the source and at the class can tell, and how much a run makes. */
public final class LanguageTest {
    private static final String FACE = "cell3 land2 walker2 of2 sheet2 asks3 wants2 terms2 feed5 end1 row0 blots0 law0 "
        + "orders0 fault0 stopped0 force1 step2 join2 smear2 pass0 undo0 way3 sure3 tour2 meet3 stale1 both1 glimpse2 "
        + "forget0 yard0 look1 reach1 cover1 few2 compare3 days2 drawn2 image1 back1 count1 status0";
    private static int wrong = 0;

    private static void must(boolean so, String what) {
        if (!so) {
            wrong++;
            System.out.println("LANGUAGE: " + what);
        }
    }

    public static void main(String[] args) throws IOException {
        String source = Files.readString(Path.of("src/main/java/FootMaps.java"));
        face();
        classes();
        words(bare(source));
        methods(bare(source));
        room();
        System.out.println(wrong == 0 ? "the language is kept to" : wrong + " rules are broken");
        if (wrong > 0) {
            System.exit(1);
        }
    }

    private static String bare(String source) {
        return source.replaceAll("(?s)/\\*.*?\\*/", " ").replaceAll("//[^\n]*", " ")
            .replaceAll("\"(\\\\.|[^\"\\\\])*\"", "\"\"").replaceAll("'(\\\\.|[^'\\\\])'", "0");
    }

    private static void face() {
        Set<String> due = new TreeSet<>(Arrays.asList(FACE.split(" ")));
        Set<String> got = new TreeSet<>();
        for (Method m : FootMaps.class.getDeclaredMethods()) {
            if (Modifier.isPublic(m.getModifiers())) {
                got.add(m.getName() + m.getParameterCount());
                must(m.getReturnType() == (m.getName().equals("few") ? long.class : int.class), m + " answers another type");
                must(!Modifier.isStatic(m.getModifiers()), m + " is static");
                for (Class<?> type : m.getParameterTypes()) {
                    must(type == int.class, m + " takes another type");
                }
            }
        }
        must(got.equals(due), "the face is " + got);
        must(Modifier.isFinal(FootMaps.class.getModifiers()), "the class is final");
        must(Modifier.isPublic(FootMaps.class.getModifiers()), "the class is public");
        must(FootMaps.class.getDeclaredConstructors().length == 1 && FootMaps.class.getConstructors().length == 1
            && FootMaps.class.getConstructors()[0].getParameterCount() == 0, "one constructor, without numbers");
        Field[] open = FootMaps.class.getFields();
        must(open.length == 1 && open[0].getName().equals("NONE") && open[0].getType() == int.class
            && Modifier.isStatic(open[0].getModifiers()) && Modifier.isFinal(open[0].getModifiers()), "one constant, NONE");
    }

    private static void classes() {
        Set<String> names = new HashSet<>();
        for (Method m : FootMaps.class.getDeclaredMethods()) {
            if (Modifier.isPublic(m.getModifiers())) {
                names.add(m.getName());
            }
        }
        List<Class<?>> all = new ArrayList<>(Arrays.asList(FootMaps.class.getDeclaredClasses()));
        must(all.size() <= 12, "too many classes");
        for (Class<?> c : all) {
            must(Modifier.isStatic(c.getModifiers()), c + " is not static");
        }
        all.add(FootMaps.class);
        for (Class<?> c : all) {
            int own = 0;
            for (Field f : c.getDeclaredFields()) {
                own += Modifier.isStatic(f.getModifiers()) ? 0 : 1;
                must(!Modifier.isStatic(f.getModifiers()) || Modifier.isFinal(f.getModifiers()), f + " is not final");
                hidden(c, f, f.getName().equals("NONE"));
            }
            must(own <= 20, c + " has too many fields");
            for (Method m : c.getDeclaredMethods()) {
                must(m.getParameterCount() <= 7, m + " takes too much");
                must(c == FootMaps.class && Modifier.isPublic(m.getModifiers()) || !names.contains(m.getName()),
                    m + " bears the name of a public one");
                hidden(c, m, Modifier.isPublic(m.getModifiers()));
            }
        }
    }

    private static void hidden(Class<?> c, Member m, boolean open) {
        must(c != FootMaps.class || open || Modifier.isPrivate(m.getModifiers()), m + " is visible");
    }

    private static void words(String bare) {
        String[] not = {"throw", "throws", "try", "catch", "synchronized", "assert", "package", "float", "double",
            "System\\.(?!arraycopy)", "->", "::", "@", "\\w+Exact", "Object", "equals", "hashCode", "toString",
            "static \\{", "volatile", "Thread", "Random"};
        for (String n : not) {
            String bounded = Character.isLetter(n.charAt(0)) ? "\\b" + n : n;
            Matcher m = Pattern.compile(bounded + (n.matches("\\w+") ? "\\b" : "")).matcher(bare);
            must(!m.find(), "the source has " + n);
        }
        Matcher imports = Pattern.compile("import ([\\w.]+);").matcher(bare);
        while (imports.find()) {
            must(imports.group(1).equals("java.util.Arrays"), "import of " + imports.group(1));
        }
        must(bare.chars().allMatch(c -> c < 128), "signs beyond 127");
        must(!bare.contains("\" +") && !bare.contains("+ \""), "texts joined by +");
    }

    private static void methods(String bare) {
        String[] lines = bare.split("\n");
        int from = -1;
        for (int n = 0; n < lines.length; n++) {
            if (lines[n].matches("\\s+(?:\\w[\\w\\[\\] ]* )?\\w+\\([^;]*\\) \\{") && !lines[n].matches("\\s+(if|for|while|switch|\\}).*")) {
                from = n;
            }
            if (from >= 0 && lines[n].matches("    (    )?\\}") && indent(lines[n]) == indent(lines[from])) {
                must(n - from < 60, "a method of " + (n - from) + " lines at " + lines[from].trim());
                from = -1;
            }
        }
    }

    private static int indent(String line) {
        return line.length() - line.stripLeading().length();
    }

    /** A run's room is 600,000 objects and 7.3 million elements: 512 of the dearest calls take far less. */
    private static void room() {
        com.sun.management.ThreadMXBean bean = (com.sun.management.ThreadMXBean) ManagementFactory.getThreadMXBean();
        FootMaps x = new FootMaps();
        dearest(x);
        long thread = Thread.currentThread().getId();
        long before = bean.getThreadAllocatedBytes(thread);
        for (int n = 0; n < 20; n++) {
            dearest(new FootMaps());
        }
        long bytes = (bean.getThreadAllocatedBytes(thread) - before) / 20;
        must(bytes < 200_000, "an object and its calls take " + bytes + " bytes");
    }

    private static void dearest(FootMaps x) {
        x.image(0);
        for (int n = 0; n < 4; n++) {
            x.walker(n, 1);
        }
        x.image(1);
        int[] text = {0x636f7374, 0x73206d6f, 0x6f642b6d, 0x696e7574, 0x65202020};
        for (int n = 0; n < 60; n++) {
            x.feed(text[0], text[1], text[2], text[3], text[4]);
            x.law();
            x.back(n % 2);
            x.wants(0, 1 << 24 | 1 << 4 | 1 << 20 | 1 << 12 | 1 << 9 | 1);
            x.tour(0, -1);
            x.days(n, 60);
            x.few(20, 99);
        }
    }
}
