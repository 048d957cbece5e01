import java.util.ArrayList;
import java.util.List;
import java.util.Random;

/** Long runs of calls, made by chance from fixed seeds, against the Oracle. */
public final class FuzzTest {
    private static final int RUNS = 400;
    private static final int CALLS = 512;
    private static final String SIGNS = "mfntx0123456789+-*/%<>=&|!()[];:,a ";

    private final Random random;
    private final DoubleHeap heap = new DoubleHeap();
    private final Oracle oracle = new Oracle();
    private final List<String> log = new ArrayList<>();
    private boolean wrong = false;

    private FuzzTest(long seed) {
        random = new Random(seed);
    }

    public static void main(String[] args) {
        int runs = args.length > 0 ? Integer.parseInt(args[0]) : RUNS;
        int wrongRuns = 0;
        for (int run = 0; run < runs; run++) {
            FuzzTest test = new FuzzTest(run);
            test.play();
            if (test.wrong) {
                wrongRuns++;
                System.out.println("run " + run + ": " + test.log.get(test.log.size() - 1));
            }
        }
        System.out.println(runs + " runs, wrong ones: " + wrongRuns);
        if (wrongRuns != 0) {
            System.exit(1);
        }
    }

    private void play() {
        while (log.size() < CALLS && !wrong) {
            int kind = random.nextInt(100);
            if (log.size() < 12 || kind < 4) {
                tellLaw(random.nextInt(8) == 0 ? any() : random.nextInt(4));
            } else if (kind < 9) {
                tellGame(random.nextInt(8) == 0 ? any() : random.nextInt(9));
            } else if (kind < 11) {
                tellRow();
            } else {
                ask(random.nextInt(40));
            }
        }
    }

    private void due(String call, long got, long want) {
        log.add(call + " answered " + got + ", due is " + want);
        wrong = wrong || got != want;
    }

    // ---- what is told ----

    private void feed(int[] bytes) {
        for (int i = 0; i < bytes.length && !wrong; i += 20) {
            int[] v = new int[5];
            for (int k = 0; k < 20; k++) {
                int b = i + k < bytes.length ? bytes[i + k] : random.nextInt(256);
                v[k / 4] = v[k / 4] << 8 | b;
            }
            due("feed", heap.feed(v[0], v[1], v[2], v[3], v[4]), oracle.feed(v[0], v[1], v[2], v[3], v[4]));
        }
    }

    private static int[] bytes(String text) {
        return text.chars().toArray();
    }

    /** A slip in one text of four. */
    private String slipped(String text) {
        if (random.nextInt(4) != 0 || text.isEmpty()) {
            return text;
        }
        int at = random.nextInt(text.length());
        char sign = random.nextInt(10) == 0 ? (char) random.nextInt(256)
                : SIGNS.charAt(random.nextInt(SIGNS.length()));
        switch (random.nextInt(4)) {
            case 0: return text.substring(0, at) + sign + text.substring(at);
            case 1: return text.substring(0, at) + sign + text.substring(at + 1);
            case 2: return text.substring(0, at) + text.substring(at + 1);
            default: return text.substring(0, at);
        }
    }

    private void tellLaw(int l) {
        String text = slipped(lawText());
        if (text.length() > 200) {
            text = text.substring(0, 200);
        }
        emptyTape();
        feed(bytes(text));
        int n = random.nextInt(20) == 0 ? any() : text.length();
        due("law(" + l + ", " + n + ") of " + text, heap.law(l, n), oracle.law(l, n));
    }

    private void tellGame(int g) {
        String text = slipped(gameText());
        emptyTape();
        feed(bytes(text));
        int n = random.nextInt(20) == 0 ? any() : text.length();
        due("game(" + g + ", " + n + ") of " + text, heap.game(g, n), oracle.game(g, n));
    }

    /** Mostly the right row of lost numbers, sometimes with a slip. */
    private void tellRow() {
        int l = random.nextInt(4);
        int n = random.nextInt(41);
        int[] row = new int[n];
        for (int i = 0; i < n; i++) {
            row[i] = Math.max(0, oracle.lostAt(l, i));
        }
        if (n > 0 && random.nextBoolean()) {
            row[random.nextInt(n)] = random.nextInt(256);
        }
        emptyTape();
        feed(row);
        due("check(" + l + ", " + n + ")", heap.check(l, n), oracle.check(l, n));
    }

    /** Mostly; else what was told before stands ahead of what is told now. */
    private void emptyTape() {
        if (oracle.tape.isEmpty() || random.nextInt(6) == 0) {
            return;
        }
        due("game to empty the tape", heap.game(0, 1), oracle.game(0, 1));
    }

    private String lawText() {
        int kind = random.nextInt(10);
        if (kind == 0) {
            return "mn-1(t=0);m" + random.nextInt(5) + "*t+" + random.nextInt(5) + "(1=1)";
        }
        if (kind > 5) {
            return lively();
        }
        if (kind == 1) {
            return deepText();
        }
        int rules = 1 + random.nextInt(random.nextInt(6) == 0 ? 10 : 4);
        StringBuilder text = new StringBuilder();
        for (int i = 0; i < rules; i++) {
            text.append(i == 0 ? "" : ";");
            if (random.nextInt(3) > 0) {
                text.append('m').append(random.nextBoolean() ? e(1) : "" + random.nextInt(50));
            } else {
                text.append('f');
            }
            text.append('(').append(random.nextInt(4) == 0 ? "1=1" : c(2)).append(')');
        }
        return text.toString();
    }

    /** A law by which there is mostly something to take. */
    private String lively() {
        StringBuilder text = new StringBuilder();
        if (random.nextBoolean()) {
            text.append("f(x%").append(2 + random.nextInt(4)).append('=').append(random.nextInt(3));
            text.append(random.nextBoolean() ? ");" : "&n>" + random.nextInt(30) + ");");
        }
        if (random.nextBoolean()) {
            text.append("f(x=t);");
        }
        if (random.nextBoolean()) {
            text.append("m").append(e(1)).append("(").append(c(1)).append(");");
        }
        text.append("m").append(1 + random.nextInt(12));
        return text.append(random.nextBoolean() ? "+t(1=1)" : "(1=1)").toString();
    }

    private String deepText() {
        StringBuilder text = new StringBuilder("f(");
        StringBuilder close = new StringBuilder(")");
        int deep = 3 + random.nextInt(5);
        for (int i = 0; i < deep; i++) {
            if (random.nextBoolean()) {
                text.append('!');
            } else {
                text.append('(');
                close.insert(0, ')');
            }
        }
        text.append(random.nextBoolean() ? "[n]=[[t]]" : "n=0&!t=[x]|[[n]]<3");
        return text.append(close).toString();
    }

    private String c(int deep) {
        StringBuilder text = new StringBuilder(part(deep));
        while (random.nextInt(4) == 0) {
            text.append('|').append(part(deep));
        }
        return text.toString();
    }

    private String part(int deep) {
        StringBuilder text = new StringBuilder(test(deep));
        while (random.nextInt(4) == 0) {
            text.append('&').append(test(deep));
        }
        return text.toString();
    }

    private String test(int deep) {
        int kind = random.nextInt(8);
        if (kind == 0 && deep > 0) {
            return "!" + test(deep - 1);
        }
        if (kind == 1 && deep > 0) {
            return "(" + c(deep - 1) + ")";
        }
        return e(deep) + "<>=".charAt(random.nextInt(3)) + e(deep);
    }

    private String e(int deep) {
        StringBuilder text = new StringBuilder(factor(deep));
        while (random.nextInt(3) == 0) {
            text.append("+-*/%".charAt(random.nextInt(5))).append(factor(deep));
        }
        return text.toString();
    }

    private String factor(int deep) {
        int kind = random.nextInt(12);
        if (kind == 0 && deep > 0) {
            return "[" + e(deep - 1) + "]";
        }
        if (kind < 7) {
            return "" + "ntx".charAt(random.nextInt(3));
        }
        if (kind == 7) {
            return "" + random.nextInt(100000);
        }
        return "" + random.nextInt(8);
    }

    private String gameText() {
        int left = random.nextInt(random.nextInt(10) == 0 ? 60 : 41);
        StringBuilder text = new StringBuilder().append(left).append(':');
        int law = random.nextInt(4);
        int last = 0;
        int most = random.nextInt(6) == 0 ? 1 : 9;
        for (int i = 0; i < 41 && left > 0 && text.length() < 120 && random.nextInt(30) > 0; i++) {
            int good = random.nextInt(3) > 0 ? oracle.state(law, left, last, 1) : -2;
            int x = good > 0 ? good : 1 + random.nextInt(Math.min(left, most));
            text.append(i == 0 ? "" : ",").append(x);
            left -= x;
            last = x;
        }
        return text.toString();
    }

    // ---- what is asked ----

    private int any() {
        int[] edges = {Integer.MIN_VALUE, -2, -1, 0, 1, 2, 4, 9, 40, 41, 130, 131, 160, 161, Integer.MAX_VALUE};
        return edges[random.nextInt(edges.length)];
    }

    /** Mostly from 0 to high; sometimes beyond. */
    private int upTo(int high) {
        int kind = random.nextInt(40);
        return kind == 0 ? any() : kind == 1 ? high + 1 : kind == 2 ? -1 : random.nextInt(high + 1);
    }

    private void ask(int kind) {
        int l = upTo(3);
        int o = upTo(3);
        int n = upTo(40);
        int t = random.nextInt(3) == 0 ? 0 : upTo(40);
        int g = upTo(8);
        int p = upTo(1);
        int q = upTo(1);
        int w = upTo(1);
        switch (kind) {
            case 0: case 1: case 2: { int v = upTo(6); due("state " + l + " " + n + " " + t + " " + v, heap.state(l, n, t, v), oracle.state(l, n, t, v)); break; }
            case 3: { int v = upTo(3); due("takes " + l + " " + n + " " + t + " " + v, heap.takes(l, n, t, v), oracle.takes(l, n, t, v)); break; }
            case 4: due("lost " + l, heap.lost(l), oracle.lost(l)); break;
            case 5: due("lostAt " + l + " " + n, heap.lostAt(l, n), oracle.lostAt(l, n)); break;
            case 6: { int v = random.nextBoolean() ? 100 : upTo(39); due("ends " + l + " " + n + " " + t + " " + v, heap.ends(l, n, t, v), oracle.ends(l, n, t, v)); break; }
            case 7: { int s = upTo(200); due("sums " + l + " " + s + " " + w, heap.sums(l, s, w), oracle.sums(l, s, w)); break; }
            case 8: { int s = upTo(200); due("sum " + l + " " + s, heap.sum(l, s), oracle.sum(l, s)); break; }
            case 9: { int a = upTo(20); int b = upTo(20); due("two " + l + " " + a + " " + b + " " + t + " " + w, heap.two(l, a, b, t, w), oracle.two(l, a, b, t, w)); break; }
            case 10: { int by = upTo(3); due("growing " + l + " " + n + " " + t + " " + by + " " + w, heap.growing(l, n, t, by, w), oracle.growing(l, n, t, by, w)); break; }
            case 11: due("each " + l + " " + o + " " + n + " " + t + " " + w, heap.each(l, o, n, t, w), oracle.each(l, o, n, t, w)); break;
            case 12: due("ones " + l + " " + n + " " + t, heap.ones(l, n, t), oracle.ones(l, n, t)); break;
            case 13: due("passes " + l + " " + n + " " + t + " " + p + " " + q + " " + w, heap.passes(l, n, t, p, q, w), oracle.passes(l, n, t, p, q, w)); break;
            case 14: due("hope " + l + " " + n + " " + t + " " + p + " " + w, heap.hope(l, n, t, p, w), oracle.hope(l, n, t, p, w)); break;
            case 15: { int v = upTo(2); due("pattern " + l + " " + v, heap.pattern(l, v), oracle.pattern(l, v)); break; }
            case 16: due("simple " + l + " " + w, heap.simple(l, w), oracle.simple(l, w)); break;
            case 17: { int v = random.nextBoolean() ? 100 : upTo(39); due("longest " + l + " " + n + " " + t + " " + v, heap.longest(l, n, t, v), oracle.longest(l, n, t, v)); break; }
            case 18: { int v = upTo(2); due("unlike " + l + " " + o + " " + v, heap.unlike(l, o, v), oracle.unlike(l, o, v)); break; }
            case 19: { int v = upTo(3); due("judged " + g + " " + l + " " + p + " " + v, heap.judged(g, l, p, v), oracle.judged(g, l, p, v)); break; }
            case 20: due("fromWhen " + l + " " + p, heap.fromWhen(l, p), oracle.fromWhen(l, p)); break;
            case 21: due("thought " + p, heap.thought(p), oracle.thought(p)); break;
            case 22: due("chance " + g + " " + l + " " + p + " " + w, heap.chance(g, l, p, w), oracle.chance(g, l, p, w)); break;
            case 23: due("stove " + l + " " + n, heap.stove(l, n) ? 1 : 0, oracle.stove(l, n) ? 1 : 0); break;
            case 24: { int x = random.nextBoolean() ? upTo(4) : upTo(40); due("take " + x, heap.take(x), oracle.take(x)); break; }
            case 25: due("she", heap.she(), oracle.she()); break;
            case 26: due("child", heap.child(), oracle.child()); break;
            case 27: due("back", heap.back(), oracle.back()); break;
            case 28: due("against " + l + " " + n + " " + p + " " + w, heap.against(l, n, p, w), oracle.against(l, n, p, w)); break;
            case 29: { int v = 1 + upTo(29); due("evenings " + v + " " + l + " " + n + " " + p, heap.evenings(v, l, n, p), oracle.evenings(v, l, n, p)); break; }
            case 30: { int x = upTo(65535); due("seed " + x, heap.seed(x) ? 1 : 0, oracle.seed(x) ? 1 : 0); break; }
            case 31: due("keep", heap.keep(), oracle.keep()); break;
            case 32: due("undo", heap.undo() ? 1 : 0, oracle.undo() ? 1 : 0); break;
            case 33: case 34: due("she", heap.she(), oracle.she()); break;
            case 35: case 36: due("child", heap.child(), oracle.child()); break;
            case 37: { int h = 20 + random.nextInt(21); due("stove " + l + " " + h, heap.stove(l, h) ? 1 : 0, oracle.stove(l, h) ? 1 : 0); break; }
            default: { int v = upTo(30); due("count " + v, heap.count(v), oracle.count(v)); break; }
        }
    }
}
