import java.io.IOException;
import java.lang.reflect.Constructor;
import java.lang.reflect.Field;
import java.lang.reflect.Method;
import java.lang.reflect.Modifier;
import java.nio.charset.StandardCharsets;
import java.nio.file.Files;
import java.nio.file.Path;
import java.util.Arrays;
import java.util.HashSet;
import java.util.Set;
import java.util.TreeSet;
import java.util.regex.Matcher;
import java.util.regex.Pattern;

/** The public face is the document's, and the class keeps to those rules of LANGUAGE.md that can be seen from outside. */
public final class FaceTest {
    private static final String[] FACE = {
        "int feed(int,int,int,int,int)", "int law(int,int)", "int game(int,int)",
        "int state(int,int,int,int)", "long takes(int,int,int,int)", "long lost(int)",
        "int lostAt(int,int)", "int ends(int,int,int,int)", "int sums(int,int,int)",
        "long sum(int,int)", "int two(int,int,int,int,int)", "int growing(int,int,int,int,int)",
        "int each(int,int,int,int,int)", "int ones(int,int,int)",
        "int passes(int,int,int,int,int,int)", "int hope(int,int,int,int,int)",
        "int pattern(int,int)", "int simple(int,int)", "int longest(int,int,int,int)",
        "int unlike(int,int,int)", "int judged(int,int,int,int)", "int fromWhen(int,int)",
        "int thought(int)", "long chance(int,int,int,int)", "boolean stove(int,int)",
        "int take(int)", "int she()", "int child()", "int back()",
        "int against(int,int,int,int)", "int evenings(int,int,int,int)", "boolean seed(int)",
        "int keep()", "boolean undo()", "int check(int,int)", "int count(int)",
    };
    private static final int MOST_PARAMETERS = 7;
    private static final int MOST_FIELDS = 20;
    private static final int MOST_CLASSES = 12;
    private static final int MOST_LINES = 60;

    private static int wrong = 0;

    private static void must(boolean holds, String what) {
        if (!holds) {
            wrong++;
            System.out.println("not so: " + what);
        }
    }

    public static void main(String[] args) throws IOException {
        face();
        Class<?>[] inner = DoubleHeap.class.getDeclaredClasses();
        must(inner.length < MOST_CLASSES, "at most twelve classes");
        for (Class<?> c : inner) {
            nested(c);
        }
        source(Files.readString(Path.of("src/main/java/DoubleHeap.java"), StandardCharsets.ISO_8859_1));
        room();
        System.out.println("wrong ones: " + wrong);
        if (wrong != 0) {
            System.exit(1);
        }
    }

    private static void face() {
        Class<?> c = DoubleHeap.class;
        must(Modifier.isPublic(c.getModifiers()) && Modifier.isFinal(c.getModifiers()), "public and final");
        Set<String> face = new TreeSet<>(Arrays.asList(FACE));
        Set<String> found = new TreeSet<>();
        for (Method m : c.getDeclaredMethods()) {
            if (!Modifier.isPrivate(m.getModifiers())) {
                must(Modifier.isPublic(m.getModifiers()) && !Modifier.isStatic(m.getModifiers()), m + " is of the face");
                found.add(told(m));
            }
            must(m.getParameterCount() <= MOST_PARAMETERS, m + " has few parameters");
        }
        must(found.equals(face), "the methods are " + face + ", not " + found);
        Constructor<?>[] makers = c.getDeclaredConstructors();
        must(makers.length == 1 && makers[0].getParameterCount() == 0
                && Modifier.isPublic(makers[0].getModifiers()), "one public constructor");
        for (Field f : c.getDeclaredFields()) {
            must(Modifier.isPrivate(f.getModifiers()) || f.getName().equals("NONE"), f + " is private");
        }
        must(DoubleHeap.NONE == -1, "NONE is -1");
    }

    private static String told(Method m) {
        StringBuilder text = new StringBuilder();
        for (Class<?> p : m.getParameterTypes()) {
            text.append(text.length() == 0 ? "" : ",").append(p);
        }
        return m.getReturnType() + " " + m.getName() + "(" + text + ")";
    }

    private static void nested(Class<?> c) {
        Set<String> names = new HashSet<>();
        for (String told : FACE) {
            names.add(told.substring(told.indexOf(' ') + 1, told.indexOf('(')));
        }
        must(Modifier.isStatic(c.getModifiers()), c + " is static");
        must(!Modifier.isPublic(c.getModifiers()) && !Modifier.isProtected(c.getModifiers()), c + " is not seen outside");
        int fields = 0;
        for (Field f : c.getDeclaredFields()) {
            boolean constant = Modifier.isStatic(f.getModifiers());
            must(!constant || Modifier.isFinal(f.getModifiers()), f + " does not change");
            fields += constant ? 0 : 1;
        }
        must(fields <= MOST_FIELDS, c + " has few fields");
        for (Method m : c.getDeclaredMethods()) {
            must(!names.contains(m.getName()), m + " has a name of its own");
            must(m.getParameterCount() <= MOST_PARAMETERS, m + " has few parameters");
        }
        for (Method m : DoubleHeap.class.getDeclaredMethods()) {
            must(!Modifier.isPrivate(m.getModifiers()) || !names.contains(m.getName()), m + " has a name of its own");
        }
    }

    private static void source(String text) {
        String code = text.replaceAll("(?s)/\\*.*?\\*/", "").replaceAll("//[^\n]*", "");
        for (String word : new String[] {"throw", "throws", "try", "catch", "synchronized", "assert", "package",
            "Exception", "Object", "String", "double", "float", "System.out", "Exact"}) {
            must(!Pattern.compile("\\b" + Pattern.quote(word)).matcher(code).find(), "no " + word);
        }
        must(!code.contains("->") && !code.contains("::"), "no lambda, no reference to a method");
        Matcher imports = Pattern.compile("import ([^;]*);").matcher(code);
        while (imports.find()) {
            must(imports.group(1).equals("java.util.Arrays"), "no import of " + imports.group(1));
        }
        for (int i = 0; i < text.length(); i++) {
            must(text.charAt(i) < 128, "plain signs alone, at " + i);
        }
        Matcher loops = Pattern.compile("\\bwhile\\b").matcher(code);
        must(!loops.find(), "each loop counts");
        lines(text.split("\n"));
    }

    /** A method begins with a line that ends in ") {" at its depth and ends with the } below it. */
    private static void lines(String[] lines) {
        for (int i = 0; i < lines.length; i++) {
            Matcher head = Pattern.compile("^( {4}| {8})(public|private)[^=;]*\\(.*").matcher(lines[i]);
            if (head.matches()) {
                int end = i;
                while (end < lines.length - 1 && !lines[end].equals(head.group(1) + "}")) {
                    end++;
                }
                must(end - i < MOST_LINES, "short: " + lines[i].trim());
            }
        }
    }

    /** What calls make must be next to nothing, as all of a run lives in one room. */
    private static void room() {
        com.sun.management.ThreadMXBean bean =
                (com.sun.management.ThreadMXBean) java.lang.management.ManagementFactory.getThreadMXBean();
        long id = Thread.currentThread().getId();
        long most = 0;
        for (int i = 0; i < 3; i++) {
            DoubleHeap x = new DoubleHeap();
            long before = bean.getThreadAllocatedBytes(id);
            use(x);
            most = bean.getThreadAllocatedBytes(id) - before;
        }
        must(most < 10000, "calls make " + most + " bytes");
        long before = bean.getThreadAllocatedBytes(id);
        DoubleHeap x = new DoubleHeap();
        long made = bean.getThreadAllocatedBytes(id) - before;
        must(x.count(7) == 1 && made < 300000, "a new object takes " + made + " bytes");
    }

    private static void use(DoubleHeap x) {
        // mn-1(t=0);mt*2(1=1) and 4:1,1,2
        x.feed(1835937073, 678706480, 691760500, 707930161, 1026632033);
        x.law(0, 19);
        x.feed(876228908, 824980065, 1633771873, 1633771873, 1633771873);
        x.game(0, 7);
        for (int what = 0; what <= 6; what++) {
            x.state(0, 40, 0, what);
            x.takes(0, 40, 0, what);
            x.ends(0, 40, 0, what);
            x.longest(0, 40, 0, what);
            x.sums(0, 200, what);
            x.two(0, 20, 20, 0, what);
            x.growing(0, 40, 0, 3, what);
            x.each(0, 0, 40, 0, what);
            x.passes(0, 40, 0, 1, 1, what);
            x.hope(0, 40, 0, 0, what);
            x.pattern(0, what);
            x.simple(0, what);
            x.unlike(0, 0, what);
            x.judged(0, 0, 0, what);
            x.chance(0, 0, 0, what);
            x.against(0, 40, 0, what);
            x.count(what);
        }
        x.sum(0, 200);
        x.ones(0, 40, 0);
        x.fromWhen(0, 0);
        x.thought(0);
        x.evenings(30, 0, 40, 0);
        x.stove(0, 40);
        x.keep();
        x.she();
        x.child();
        x.take(1);
        x.back();
        x.undo();
        x.check(0, 0);
    }
}
