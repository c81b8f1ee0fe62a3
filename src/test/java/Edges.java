import java.io.IOException;
import java.nio.charset.StandardCharsets;
import java.nio.file.Files;
import java.nio.file.Path;
import java.util.HashMap;
import java.util.Map;
import java.util.function.IntUnaryOperator;

/**
 * What the tests of boundary cases share. Each of them begins with says(), which quotes the
 * sentence of the document that it is about: the quote must stand there, and checks must follow.
 * (Where the document can't be read, the checks alone are made.)
 */
final class Edges {
    static final int ALL = (1 << 25) - 1;
    static final int LEAST = Integer.MIN_VALUE;
    static final int MOST = Integer.MAX_VALUE;
    private static final Path DOC = Path.of("..", "shared", "DOC.md");
    private static final Map<String, String> SECTIONS = new HashMap<>();
    private static String sentence = "";
    private static int sentences = 0;
    private static int checksOfSentence = 1;
    private static int checks = 0;
    private static int wrong = 0;

    private Edges() {
    }

    /** Where: I to IV for the terms, a promise's number, or 0 for what stands ahead of the terms. */
    static void says(String where, String words) {
        endSentence();
        sentence = where + " \"" + words + "\"";
        sentences++;
        checksOfSentence = 0;
        if (SECTIONS.isEmpty() && Files.isReadable(DOC)) {
            readDocument();
        }
        if (!SECTIONS.isEmpty() && !SECTIONS.getOrDefault(where, "").contains(words)) {
            fails("does not stand in the document");
        }
    }

    static void due(String what, long got, long want) {
        checks++;
        checksOfSentence++;
        if (got != want) {
            fails(what + " answered " + got + ", due is " + want);
        }
    }

    static void same(String what, String got, String want) {
        checks++;
        checksOfSentence++;
        if (!got.equals(want)) {
            fails(what + ": " + got + ", ahead of it: " + want);
        }
    }

    /** To be called last: the exit code is 1 if a check was wrong. */
    static void end() {
        endSentence();
        System.out.println(sentences + " sentences, " + checks + " checks, " + wrong + " wrong");
        if (wrong > 0) {
            System.exit(1);
        }
    }

    private static void endSentence() {
        if (checksOfSentence == 0) {
            fails("has no check");
        }
    }

    private static void fails(String how) {
        wrong++;
        System.out.println(sentence + ": " + how);
    }

    private static void readDocument() {
        String section = "0";
        StringBuilder words = new StringBuilder();
        String text;
        try {
            text = Files.readString(DOC, StandardCharsets.UTF_8);
        } catch (IOException e) {
            throw new IllegalStateException("the document is not at " + DOC.toAbsolutePath(), e);
        }
        for (String line : text.split("\n")) {
            String next = sectionBegunBy(line);
            if (next != null) {
                SECTIONS.put(section, words.toString());
                section = next;
                words.setLength(0);
            }
            words.append(line.strip()).append(' ');
        }
        SECTIONS.put(section, words.toString());
    }

    private static String sectionBegunBy(String line) {
        if (line.startsWith("## Promise ")) {
            return line.substring("## Promise ".length(), line.indexOf(':'));
        }
        return line.matches("(I|II|III|IV)\\. .*") ? line.substring(0, line.indexOf('.')) : null;
    }

    static int bits(int... cells) {
        int bits = 0;
        for (int cell : cells) {
            bits |= 1 << cell;
        }
        return bits;
    }

    /** A new land with walkers of pace 1 in these cells. */
    static FootMaps with(int... cells) {
        FootMaps x = new FootMaps();
        for (int cell : cells) {
            x.walker(cell, 1);
        }
        return x;
    }

    /** The same with law 0 in force. */
    static FootMaps under(String law, int... cells) {
        FootMaps x = with(cells);
        due("law \"" + law + "\"", law(x, law), 0);
        due("force(0)", x.force(0), -1);
        return x;
    }

    static void tape(FootMaps x, String text) {
        byte[] signs = text.getBytes(StandardCharsets.ISO_8859_1);
        int[] bytes = new int[signs.length];
        for (int i = 0; i < signs.length; i++) {
            bytes[i] = signs[i] & 255;
        }
        tape(x, bytes);
    }

    static void tape(FootMaps x, int... bytes) {
        x.end(0);
        for (int at = 0; at < bytes.length; at += 20) {
            int[] n = new int[5];
            for (int i = at; i < Math.min(at + 20, bytes.length); i++) {
                n[(i - at) / 4] |= bytes[i] << 24 - 8 * ((i - at) % 4);
            }
            x.feed(n[0], n[1], n[2], n[3], n[4]);
        }
        x.end(bytes.length);
    }

    static int law(FootMaps x, String text) {
        tape(x, text);
        return x.law();
    }

    static int orders(FootMaps x, String text) {
        tape(x, text);
        return x.orders();
    }

    /** A refusal: what was answered, what status() tells, and what is counted. */
    static void refused(String what, FootMaps x, int by, int got) {
        due(what, got, by);
        due("status() behind " + what, x.status(), by);
    }

    static void good(String what, FootMaps x, int want, int got) {
        due(what, got, want);
        due("status() behind " + what, x.status(), 0);
    }

    /** A row that is asked by numbers: its cells, and NONE for all other numbers. */
    static void row(String what, IntUnaryOperator call, int... cells) {
        for (int i = 0; i < cells.length; i++) {
            due(what + " at " + i, call.applyAsInt(i), cells[i]);
        }
        due(what + " behind its end", call.applyAsInt(cells.length), -1);
        due(what + " at -2", call.applyAsInt(-2), -1);
        due(what + " at the greatest int", call.applyAsInt(MOST), -1);
        due(what + " at the least int", call.applyAsInt(LEAST), -1);
    }

    /** What can be seen of an object, but how often and by what it refused. */
    static String state(FootMaps x) {
        StringBuilder seen = new StringBuilder();
        for (int cell = 0; cell < 25; cell++) {
            seen.append(x.land(cell, 0)).append(x.land(cell, 1));
        }
        for (int walker = 0; walker < x.count(0); walker++) {
            for (int what = 0; what < 5; what++) {
                seen.append(' ').append(x.of(walker, what));
            }
            for (int cell = 0; cell < 25; cell++) {
                seen.append(x.sheet(walker, cell));
            }
        }
        for (int what = 0; what < 15; what++) {
            if (what < 6 || what > 10) {
                seen.append(' ').append(x.count(what));
            }
        }
        return seen.append(' ').append(x.yard()).append(' ').append(x.drawn(0, 0)).toString();
    }

    static String times(int n, String text) {
        return text.repeat(n);
    }
}
