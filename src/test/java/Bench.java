import java.io.IOException;
import java.nio.charset.StandardCharsets;
import java.nio.file.Files;
import java.nio.file.Path;

/** What the tests share: texts told to an object, and answers held against those that are due. */
abstract class Bench {
    /** At most twice what the other took; at first any number but all. */
    static final String DOUBLE = "mn-1(t=0);mt*2(1=1)";
    static final String ONE = "m1(1=1)";
    static final String THREE = "m3(1=1)";
    static final String ALL = "mn(1=1)";
    static final String ODD = "m40(1=1);f(x%2=0)";
    static final String NO_TAKE = "m5(1=0)";
    static final long EVEN_HEAPS = 1466015503700L;
    /** Bits 1 to 40. */
    static final long ALL_HEAPS = (1L << 41) - 2;

    private static final Path DOCUMENT = Path.of("../shared/DOC.md");

    private static String document = "";
    private static String place = "";
    private static int answers = 0;
    private static int wrong = 0;

    /** Where in the document what comes now stands. */
    static void at(String where) {
        place = where;
    }

    /**
     * What comes now tests a sentence of a part of the document, which must stand there word for
     * word (this is not asked where the document is not at hand).
     */
    static void sentence(String part, String words) {
        at(part + ", \"" + words + "\"");
        if (Files.exists(DOCUMENT)) {
            due("the document has the sentence", plain(section(part)).contains(plain(words)), true);
        }
    }

    private static String section(String part) {
        int start = read().indexOf("\n## " + part + (part.startsWith("Promise") ? ":" : "\n"));
        int stop = read().indexOf("\n## ", start + 1);
        return start < 0 ? "" : read().substring(start, stop < 0 ? read().length() : stop);
    }

    private static String plain(String text) {
        return text.replaceAll("\\s+", " ");
    }

    private static String read() {
        if (document.isEmpty()) {
            try {
                document = Files.readString(DOCUMENT, StandardCharsets.UTF_8);
            } catch (IOException e) {
                document = "the document can't be read: " + e;
            }
        }
        return document;
    }

    static void due(String what, long got, long want) {
        answers++;
        if (got != want) {
            wrong++;
            System.out.println(place + ": " + what + " answered " + got + ", due is " + want);
        }
    }

    static void due(String what, boolean got, boolean want) {
        due(what, got ? 1 : 0, want ? 1 : 0);
    }

    /** Says how it went; the exit code is 1 if an answer was wrong. */
    static void end() {
        System.out.println(answers + " answers, wrong ones: " + wrong);
        if (wrong != 0) {
            System.exit(1);
        }
    }

    static void feed(DoubleHeap x, int... bytes) {
        for (int i = 0; i < bytes.length; i += 20) {
            int[] v = new int[5];
            for (int k = 0; k < 20; k++) {
                v[k / 4] = v[k / 4] << 8 | (i + k < bytes.length ? bytes[i + k] : 0);
            }
            x.feed(v[0], v[1], v[2], v[3], v[4]);
        }
    }

    static int law(DoubleHeap x, int l, String text) {
        feed(x, text.chars().toArray());
        return x.law(l, text.length());
    }

    static int game(DoubleHeap x, int g, String text) {
        feed(x, text.chars().toArray());
        return x.game(g, text.length());
    }

    /** An object with laws 0 on told. */
    static DoubleHeap with(String... laws) {
        DoubleHeap x = new DoubleHeap();
        for (int l = 0; l < laws.length; l++) {
            int answer = law(x, l, laws[l]);
            if (answer < 1) {
                due("law " + laws[l], answer, 1);
            }
        }
        return x;
    }

    static void lawText(String text, int want) {
        due("law " + text, law(new DoubleHeap(), 0, text), want);
    }

    static void gameText(String text, int want) {
        due("game " + text, game(new DoubleHeap(), 0, text), want);
    }

    /** How many may be taken of 40 by a law, if nothing was taken yet. */
    static void most(String text, int want) {
        most(text, 0, want);
    }

    /** How many may be taken of 40 by a law, behind what was taken last. */
    static void most(String text, int last, int want) {
        due("of 40 behind " + last + " by " + text, with(text).state(0, 40, last, 4), want);
    }

    /** So many takes of 1, as a game tells them. */
    static String ones(int many) {
        return repeated("1", many, ",");
    }

    static String repeated(String text, int many, String between) {
        StringBuilder all = new StringBuilder();
        for (int i = 0; i < many; i++) {
            all.append(i == 0 ? "" : between).append(text);
        }
        return all.toString();
    }

    static long bits(int... numbers) {
        long bits = 0;
        for (int x : numbers) {
            bits |= 1L << x;
        }
        return bits;
    }

    /** A law whose lost numbers are these: there nothing may be taken, elsewhere all. */
    static String losingAt(int... heaps) {
        StringBuilder text = new StringBuilder("m0(");
        for (int i = 0; i < heaps.length; i++) {
            text.append(i == 0 ? "n=" : "|n=").append(heaps[i]);
        }
        return text.append(");mn(1=1)").toString();
    }
}
