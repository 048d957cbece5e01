import java.util.ArrayDeque;
import java.util.ArrayList;
import java.util.Arrays;
import java.util.Deque;
import java.util.HashMap;
import java.util.List;
import java.util.Map;

/**
 * The document told a second time, as plainly as can be: texts become trees, every question is a
 * recursion over states as the Terms say it, with a memory where it would take too long. It shares
 * no code with DoubleHeap, so that a slip in the one shows against the other.
 */
final class Oracle {
    static final int NONE = -1;

    // ---- texts of laws ----

    static final class Fault extends RuntimeException {
        private static final long serialVersionUID = 1L;
        final int answer;

        Fault(int number, int place) {
            super("fault", null, false, false);
            answer = -1000 * number - place;
        }
    }

    static final class Refused extends RuntimeException {
        private static final long serialVersionUID = 1L;

        Refused() {
            super("refused", null, false, false);
        }
    }

    /** A tree: an operator with parts, a number, or a letter. */
    static final class Node {
        final char op;
        final int number;
        final List<Node> parts = new ArrayList<>();

        Node(char op, int number, Node... parts) {
            this.op = op;
            this.number = number;
            this.parts.addAll(Arrays.asList(parts));
        }

        int value(int n, int t, int x) {
            switch (op) {
                case '0': return number;
                case 'n': return n;
                case 't': return t;
                case 'x': return x;
                default: break;
            }
            int a = parts.get(0).value(n, t, x);
            int b = parts.get(1).value(n, t, x);
            switch (op) {
                case '+': return a + b;
                case '-': return a - b;
                case '*': return a * b;
                default: break;
            }
            if (b == 0) {
                throw new Refused();
            }
            return op == '/' ? a / b : a % b;
        }

        boolean holds(int n, int t, int x) {
            switch (op) {
                case '|':
                    for (Node part : parts) {
                        if (part.holds(n, t, x)) {
                            return true;
                        }
                    }
                    return false;
                case '&':
                    for (Node part : parts) {
                        if (!part.holds(n, t, x)) {
                            return false;
                        }
                    }
                    return true;
                case '!': return !parts.get(0).holds(n, t, x);
                default: break;
            }
            int a = parts.get(0).value(n, t, x);
            int b = parts.get(1).value(n, t, x);
            return op == '<' ? a < b : op == '>' ? a > b : a == b;
        }
    }

    static final class Rule {
        char letter;
        Node amount;
        Node when;
    }

    static final class Parser {
        final int[] text;
        int at = 0;
        int open = 0;

        Parser(int[] text) {
            this.text = text;
        }

        int now() {
            return at < text.length ? text[at] : -1;
        }

        void need(char c) {
            if (now() != c) {
                throw new Fault(1, at);
            }
            at++;
        }

        void open() {
            if (open == 6) {
                throw new Fault(5, at);
            }
            open++;
            at++;
        }

        List<Rule> rules() {
            List<Rule> all = new ArrayList<>();
            do {
                Rule rule = new Rule();
                if (now() != 'm' && now() != 'f') {
                    throw new Fault(1, at);
                }
                if (all.size() == 8) {
                    throw new Fault(4, at);
                }
                rule.letter = (char) now();
                at++;
                if (rule.letter == 'm') {
                    rule.amount = sum();
                }
                if (now() != '(') {
                    throw new Fault(1, at);
                }
                open();
                rule.when = either();
                need(')');
                open--;
                all.add(rule);
                if (at == text.length) {
                    return all;
                }
                need(';');
            } while (true);
        }

        Node either() {
            Node all = new Node('|', 0, both());
            while (now() == '|') {
                at++;
                all.parts.add(both());
            }
            return all;
        }

        Node both() {
            Node all = new Node('&', 0, test());
            while (now() == '&') {
                at++;
                all.parts.add(test());
            }
            return all;
        }

        Node test() {
            if (now() == '!') {
                open();
                Node inner = new Node('!', 0, test());
                open--;
                return inner;
            }
            if (now() == '(') {
                open();
                Node inner = either();
                need(')');
                open--;
                return inner;
            }
            Node left = sum();
            int op = now();
            if (op != '<' && op != '>' && op != '=') {
                throw new Fault(1, at);
            }
            at++;
            return new Node((char) op, 0, left, sum());
        }

        Node sum() {
            Node left = product();
            while (now() == '+' || now() == '-') {
                char op = (char) now();
                at++;
                left = new Node(op, 0, left, product());
            }
            return left;
        }

        Node product() {
            Node left = factor();
            while (now() == '*' || now() == '/' || now() == '%') {
                char op = (char) now();
                at++;
                left = new Node(op, 0, left, factor());
            }
            return left;
        }

        Node factor() {
            int c = now();
            if (c == '[') {
                open();
                Node inner = sum();
                need(']');
                open--;
                return inner;
            }
            if (c == 'n' || c == 't' || c == 'x') {
                at++;
                return new Node((char) c, 0);
            }
            StringBuilder digits = new StringBuilder();
            while (now() >= '0' && now() <= '9') {
                if (digits.length() == 5) {
                    throw new Fault(2, at);
                }
                digits.append((char) now());
                at++;
            }
            if (digits.length() == 0) {
                throw new Fault(1, at);
            }
            return new Node('0', Integer.parseInt(digits.toString()));
        }
    }

    // ---- laws ----

    static final class OneLaw {
        final List<Rule> rules;
        final Map<Integer, List<Integer>> takes = new HashMap<>();
        final Map<Integer, Boolean> won = new HashMap<>();
        final Map<Integer, int[]> memory = new HashMap<>();
        final Map<Integer, Long> rowMemory = new HashMap<>();

        OneLaw(List<Rule> rules) {
            this.rules = rules;
        }

        static boolean asks(Node when, int n, int t, int x) {
            try {
                return when.holds(n, t, x);
            } catch (Refused r) {
                return false;
            }
        }

        int most(int n, int t) {
            for (Rule rule : rules) {
                if (rule.letter == 'm' && asks(rule.when, n, t, 0)) {
                    try {
                        int amount = rule.amount.value(n, t, 0);
                        return amount < 0 ? 0 : amount > 40 ? 40 : amount;
                    } catch (Refused r) {
                        return 0;
                    }
                }
            }
            return 0;
        }

        List<Integer> takes(int n, int t) {
            List<Integer> known = takes.get(n * 100 + t);
            if (known != null) {
                return known;
            }
            List<Integer> all = new ArrayList<>();
            int most = most(n, t);
            for (int x = 1; x <= most && x <= n; x++) {
                boolean forbidden = false;
                for (Rule rule : rules) {
                    forbidden = forbidden || rule.letter == 'f' && asks(rule.when, n, t, x);
                }
                if (!forbidden) {
                    all.add(x);
                }
            }
            takes.put(n * 100 + t, all);
            return all;
        }

        boolean won(int n, int t) {
            Boolean known = won.get(n * 100 + t);
            if (known == null) {
                known = false;
                for (int x : takes(n, t)) {
                    if (!won(n - x, x)) {
                        known = true;
                    }
                }
                won.put(n * 100 + t, known);
            }
            return known;
        }

        List<Integer> good(int n, int t) {
            List<Integer> all = new ArrayList<>();
            for (int x : takes(n, t)) {
                if (!won(n - x, x)) {
                    all.add(x);
                }
            }
            return all;
        }

        List<Integer> lost() {
            List<Integer> all = new ArrayList<>();
            for (int n = 1; n <= 40; n++) {
                if (!won(n, 0)) {
                    all.add(n);
                }
            }
            return all;
        }

        int length(int n, int t) {
            int key = (n * 100 + t) * 10 + 1;
            if (memory.containsKey(key)) {
                return memory.get(key)[0];
            }
            boolean wins = won(n, t);
            int best = -1;
            for (int x : wins ? good(n, t) : takes(n, t)) {
                int here = 1 + length(n - x, x);
                if (best < 0 || (wins ? here < best : here > best)) {
                    best = here;
                }
            }
            memory.put(key, new int[] {Math.max(0, best)});
            return Math.max(0, best);
        }

        /** The row itself, the shortest and least or the longest and greatest. */
        int[] row(int n, int t, boolean shortest) {
            int key = (n * 100 + t) * 10 + (shortest ? 2 : 3);
            if (memory.containsKey(key)) {
                return memory.get(key);
            }
            int[] best = null;
            for (int x : takes(n, t)) {
                int[] rest = row(n - x, x, shortest);
                int[] here = new int[rest.length + 1];
                here[0] = x;
                System.arraycopy(rest, 0, here, 1, rest.length);
                if (best == null || better(here, best, shortest)) {
                    best = here;
                }
            }
            best = best == null ? new int[0] : best;
            memory.put(key, best);
            return best;
        }

        static boolean better(int[] a, int[] b, boolean shortest) {
            if (a.length != b.length) {
                return shortest == a.length < b.length;
            }
            int compared = Arrays.compare(a, b);
            return shortest ? compared < 0 : compared > 0;
        }

        /** Rows won by who takes now (who 0) or by the other (who 1). */
        long rows(int n, int t, int who) {
            int key = (n * 100 + t) * 10 + who;
            Long known = rowMemory.get(key);
            if (known != null) {
                return known;
            }
            long all = 0;
            if (takes(n, t).isEmpty()) {
                all = who;
            }
            for (int x : takes(n, t)) {
                all += rows(n - x, x, 1 - who);
            }
            rowMemory.put(key, all);
            return all;
        }
    }

    static long bits(List<Integer> all) {
        long bits = 0;
        for (int x : all) {
            bits |= 1L << x;
        }
        return bits;
    }

    // ---- the object ----

    static final class Told {
        int heap;
        List<Integer> takes = new ArrayList<>();
    }

    final List<Integer> tape = new ArrayList<>();
    final OneLaw[] laws = new OneLaw[4];
    final Told[] games = new Told[9];
    int stoveLaw = 0;
    int stoveHeap = 0;
    Deque<Integer> stoveTakes = new ArrayDeque<>();
    int seed = 1;
    Object[] kept = null;

    int feed(int a, int b, int c, int d, int e) {
        if (tape.size() > 240) {
            return NONE;
        }
        for (int v : new int[] {a, b, c, d, e}) {
            tape.add(v >> 24 & 255);
            tape.add(v >> 16 & 255);
            tape.add(v >> 8 & 255);
            tape.add(v & 255);
        }
        return tape.size();
    }

    int[] cut(int n) {
        int[] text = new int[n];
        for (int i = 0; i < n; i++) {
            text[i] = tape.get(i);
        }
        tape.clear();
        return text;
    }

    static boolean out(int v, int low, int high) {
        return v < low || v > high;
    }

    boolean noLaw(int l) {
        return out(l, 0, 3) || laws[l] == null;
    }

    boolean noGame(int g) {
        return out(g, 0, 8) || games[g] == null;
    }

    boolean noState(int l, int heap, int last) {
        return noLaw(l) || out(heap, 0, 40) || out(last, 0, 40);
    }

    int law(int l, int n) {
        if (out(l, 0, 3) || out(n, 1, 160) || n > tape.size()) {
            return NONE;
        }
        try {
            List<Rule> rules = new Parser(cut(n)).rules();
            laws[l] = new OneLaw(rules);
            return rules.size();
        } catch (Fault f) {
            return f.answer;
        }
    }

    int game(int g, int n) {
        if (out(g, 0, 8) || out(n, 1, 130) || n > tape.size()) {
            return NONE;
        }
        int[] text = cut(n);
        try {
            games[g] = told(text);
            return games[g].takes.size();
        } catch (Fault f) {
            return f.answer;
        }
    }

    /** One sign after the other, by what may stand there. */
    static Told told(int[] text) {
        Told told = new Told();
        int first = 0;
        int digits = 0;
        int number = 0;
        boolean inHeap = true;
        int left = 0;
        boolean colon = false;
        for (int i = 0; i <= text.length; i++) {
            int c = i < text.length ? text[i] : -1;
            boolean digit = c >= '0' && c <= '9';
            if (digit && digits < 2) {
                if (digits == 0) {
                    first = i;
                    number = 0;
                    if (!inHeap && told.takes.size() == 40) {
                        throw new Fault(4, i);
                    }
                }
                number = number * 10 + c - '0';
                digits++;
                colon = false;
                if (digits < 2) {
                    continue;
                }
            }
            boolean ended = digits == 2 && digit && i == first + 1;
            if (ended || digits == 1) {
                if (inHeap) {
                    if (number > 40) {
                        throw new Fault(2, first);
                    }
                    told.heap = number;
                    left = number;
                } else {
                    if (number == 0 || number > left) {
                        throw new Fault(3, first);
                    }
                    told.takes.add(number);
                    left -= number;
                }
                if (ended) {
                    continue;
                }
            }
            if (c < 0 && !inHeap && (digits > 0 || colon)) {
                return told;
            }
            if (digits > 0 && c == (inHeap ? ':' : ',')) {
                colon = inHeap;
                inHeap = false;
                digits = 0;
                continue;
            }
            throw new Fault(1, i);
        }
        throw new IllegalStateException();
    }

    int state(int l, int heap, int last, int what) {
        if (noState(l, heap, last) || out(what, 0, 6)) {
            return NONE;
        }
        List<Integer> good = laws[l].good(heap, last);
        switch (what) {
            case 0: return laws[l].won(heap, last) ? 1 : 0;
            case 1: return good.isEmpty() ? -2 : good.get(0);
            case 2: return good.isEmpty() ? -2 : good.get(good.size() - 1);
            case 3: return good.size();
            case 4: return laws[l].takes(heap, last).size();
            case 5: return laws[l].length(heap, last);
            default: break;
        }
        int best = -2;
        int most = -1;
        for (int x : good) {
            int not = 0;
            for (int o = 0; o < 4; o++) {
                if (o != l && laws[o] != null && !laws[o].good(heap, last).contains(x)) {
                    not++;
                }
            }
            if (not > most) {
                most = not;
                best = x;
            }
        }
        return best;
    }

    long takes(int l, int heap, int last, int what) {
        if (noState(l, heap, last) || out(what, 0, 3)) {
            return NONE;
        }
        switch (what) {
            case 0: return bits(laws[l].takes(heap, last));
            case 1: return bits(laws[l].good(heap, last));
            case 2: return laws[l].rows(heap, last, 0) + laws[l].rows(heap, last, 1);
            default: return laws[l].rows(heap, last, 0);
        }
    }

    long lost(int l) {
        return noLaw(l) ? NONE : bits(laws[l].lost());
    }

    int lostAt(int l, int k) {
        if (noLaw(l) || k < 0) {
            return NONE;
        }
        List<Integer> lost = laws[l].lost();
        return k < lost.size() ? lost.get(k) : -2;
    }

    int ends(int l, int heap, int last, int what) {
        return rowed(l, heap, last, what, true);
    }

    int longest(int l, int heap, int last, int what) {
        return rowed(l, heap, last, what, false);
    }

    private int rowed(int l, int heap, int last, int what, boolean shortest) {
        if (noState(l, heap, last) || what != 100 && out(what, 0, 39)) {
            return NONE;
        }
        int[] row = laws[l].row(heap, last, shortest);
        return what == 100 ? row.length : what < row.length ? row[what] : -4;
    }

    /** Ways from number k of the row down (k itself may be in it). */
    private static long ways(List<Integer> lost, int k, int rest, Map<Integer, Long> memory) {
        if (rest == 0) {
            return 1;
        }
        if (rest < 0 || k < 0) {
            return 0;
        }
        Long known = memory.get(k * 1000 + rest);
        if (known == null) {
            known = ways(lost, k - 1, rest, memory) + ways(lost, k - 2, rest - lost.get(k), memory);
            memory.put(k * 1000 + rest, known);
        }
        return known;
    }

    private static List<Integer> greatestFirst(List<Integer> lost, int most, int rest, Map<Integer, Long> memory) {
        if (rest == 0) {
            return new ArrayList<>();
        }
        for (int k = most; k >= 0; k--) {
            if (ways(lost, k - 2, rest - lost.get(k), memory) > 0) {
                List<Integer> all = greatestFirst(lost, k - 2, rest - lost.get(k), memory);
                all.add(0, lost.get(k));
                return all;
            }
        }
        return null;
    }

    int sums(int l, int number, int what) {
        if (noLaw(l) || out(number, 0, 200) || out(what, 0, 1)) {
            return NONE;
        }
        List<Integer> lost = laws[l].lost();
        Map<Integer, Long> memory = new HashMap<>();
        if (what == 0) {
            return (int) Math.min(1000000000L, ways(lost, lost.size() - 1, number, memory));
        }
        List<Integer> first = greatestFirst(lost, lost.size() - 1, number, memory);
        return first == null ? -2 : first.size();
    }

    long sum(int l, int number) {
        if (noLaw(l) || out(number, 0, 200)) {
            return NONE;
        }
        List<Integer> lost = laws[l].lost();
        List<Integer> first = greatestFirst(lost, lost.size() - 1, number, new HashMap<>());
        return first == null ? -2 : bits(first);
    }

    private boolean wonTwo(OneLaw law, int a, int b, int t, Map<Integer, Boolean> memory) {
        int key = (a * 100 + b) * 100 + t;
        Boolean known = memory.get(key);
        if (known == null) {
            known = goodTwo(law, a, b, t, memory) != -2;
            memory.put(key, known);
        }
        return known;
    }

    private int goodTwo(OneLaw law, int a, int b, int t, Map<Integer, Boolean> memory) {
        for (int x : law.takes(a, t)) {
            if (!wonTwo(law, a - x, b, x, memory)) {
                return x;
            }
        }
        for (int x : law.takes(b, t)) {
            if (!wonTwo(law, a, b - x, x, memory)) {
                return 100 + x;
            }
        }
        return -2;
    }

    int two(int l, int first, int second, int last, int what) {
        if (noLaw(l) || out(first, 0, 20) || out(second, 0, 20) || out(last, 0, 40) || out(what, 0, 1)) {
            return NONE;
        }
        int good = goodTwo(laws[l], first, second, last, new HashMap<>());
        return what == 1 ? good : good == -2 ? 0 : 1;
    }

    private int goodGrowing(OneLaw law, int n, int t, int by, int taken, Map<Integer, Integer> memory) {
        if (taken == 20) {
            return -2;
        }
        int key = (n * 100 + t) * 100 + taken;
        Integer known = memory.get(key);
        if (known != null) {
            return known;
        }
        int good = -2;
        for (int x : law.takes(n, t)) {
            int left = n - x;
            if (left > 0) {
                left = Math.min(40, left + by);
            }
            if (good == -2 && goodGrowing(law, left, x, by, taken + 1, memory) == -2) {
                good = x;
            }
        }
        memory.put(key, good);
        return good;
    }

    int growing(int l, int heap, int last, int by, int what) {
        if (noState(l, heap, last) || out(by, 0, 3) || out(what, 0, 1)) {
            return NONE;
        }
        int good = goodGrowing(laws[l], heap, last, by, 0, new HashMap<>());
        return what == 1 ? good : good == -2 ? 0 : 1;
    }

    private int goodEach(OneLaw own, OneLaw other, int n, int t, boolean turned, Map<Integer, Integer> memory) {
        int key = (n * 100 + t) * 2 + (turned ? 1 : 0);
        Integer known = memory.get(key);
        if (known != null) {
            return known;
        }
        int good = -2;
        for (int x : own.takes(n, t)) {
            if (good == -2 && goodEach(other, own, n - x, x, !turned, memory) == -2) {
                good = x;
            }
        }
        memory.put(key, good);
        return good;
    }

    int each(int l, int other, int heap, int last, int what) {
        if (noState(l, heap, last) || noLaw(other) || out(what, 0, 1)) {
            return NONE;
        }
        int good = goodEach(laws[l], laws[other], heap, last, false, new HashMap<>());
        return what == 1 ? good : good == -2 ? 0 : 1;
    }

    private boolean onesWin(OneLaw law, int n, int t, Map<Integer, Boolean> memory) {
        if (!law.takes(n, t).contains(1)) {
            return false;
        }
        Boolean known = memory.get(n * 100 + t);
        if (known == null) {
            known = true;
            for (int y : law.takes(n - 1, 1)) {
                known = known && onesWin(law, n - 1 - y, y, memory);
            }
            memory.put(n * 100 + t, known);
        }
        return known;
    }

    int ones(int l, int heap, int last) {
        return noState(l, heap, last) ? NONE : onesWin(laws[l], heap, last, new HashMap<>()) ? 1 : 0;
    }

    private boolean wonPasses(OneLaw law, int n, int t, int own, int others, Map<Integer, Boolean> memory) {
        int key = (n * 100 + t) * 4 + own * 2 + others;
        Boolean known = memory.get(key);
        if (known == null) {
            known = goodTakeWithPasses(law, n, t, own, others, memory)
                    || own == 1 && !wonPasses(law, n, t, others, 0, memory);
            memory.put(key, known);
        }
        return known;
    }

    private boolean goodTakeWithPasses(OneLaw law, int n, int t, int own, int others, Map<Integer, Boolean> memory) {
        for (int x : law.takes(n, t)) {
            if (!wonPasses(law, n - x, x, others, own, memory)) {
                return true;
            }
        }
        return false;
    }

    int passes(int l, int heap, int last, int own, int others, int what) {
        if (noState(l, heap, last) || out(own, 0, 1) || out(others, 0, 1) || out(what, 0, 1)) {
            return NONE;
        }
        Map<Integer, Boolean> memory = new HashMap<>();
        boolean won = wonPasses(laws[l], heap, last, own, others, memory);
        if (what == 1) {
            won = won && !goodTakeWithPasses(laws[l], heap, last, own, others, memory);
        }
        return won ? 1 : 0;
    }

    private int hoped(OneLaw law, int n, int t, int who, Map<Integer, Integer> memory) {
        List<Integer> takes = law.takes(n, t);
        if (takes.isEmpty()) {
            return who == 0 ? 0 : 1000000;
        }
        int key = (n * 100 + t) * 2 + who;
        Integer known = memory.get(key);
        if (known == null) {
            int all = 0;
            int best = 0;
            for (int x : takes) {
                int behind = hoped(law, n - x, x, 1 - who, memory);
                all += behind;
                best = Math.max(best, behind);
            }
            known = who == 0 ? best : all / takes.size();
            memory.put(key, known);
        }
        return known;
    }

    int hope(int l, int heap, int last, int who, int what) {
        if (noState(l, heap, last) || out(who, 0, 1) || out(what, 0, 1)) {
            return NONE;
        }
        Map<Integer, Integer> memory = new HashMap<>();
        if (what == 0) {
            return hoped(laws[l], heap, last, who, memory);
        }
        int best = -2;
        int most = -1;
        if (who == 0) {
            for (int x : laws[l].takes(heap, last)) {
                int behind = hoped(laws[l], heap - x, x, 1, memory);
                if (behind > most) {
                    most = behind;
                    best = x;
                }
            }
        }
        return best;
    }

    int pattern(int l, int what) {
        if (noLaw(l) || out(what, 0, 2)) {
            return NONE;
        }
        List<Integer> row = laws[l].lost();
        if (what == 2) {
            return row.size();
        }
        for (int lag = 0; lag <= 5; lag++) {
            for (int from = lag + 1; from + 3 <= row.size(); from++) {
                boolean all = true;
                for (int i = from; i < row.size(); i++) {
                    all = all && row.get(i) == row.get(i - 1) + row.get(i - 1 - lag);
                }
                if (all) {
                    return what == 0 ? lag : from;
                }
            }
        }
        return -2;
    }

    private static final List<List<Integer>> SIMPLE = simples();

    /** Each simple law told in the language itself. */
    private static List<List<Integer>> simples() {
        List<List<Integer>> all = new ArrayList<>();
        for (int k = 0; k <= 4; k++) {
            for (int c = 0; c <= 4; c++) {
                String text = "mn-1(t=0);m" + k + "*t+" + c + "(t>0)";
                all.add(new OneLaw(new Parser(text.chars().toArray()).rules()).lost());
            }
        }
        return all;
    }

    int simple(int l, int what) {
        if (noLaw(l) || out(what, 0, 1)) {
            return NONE;
        }
        List<Integer> lost = laws[l].lost();
        int many = 0;
        int first = -2;
        for (int i = 0; i < 25; i++) {
            if (SIMPLE.get(i).equals(lost)) {
                first = many == 0 ? i / 5 * 10 + i % 5 : first;
                many++;
            }
        }
        return what == 0 ? many : first;
    }

    int unlike(int l, int other, int what) {
        if (noLaw(l) || noLaw(other) || out(what, 0, 2)) {
            return NONE;
        }
        int takes = 0;
        int winners = 0;
        int first = -2;
        for (int n = 0; n <= 40; n++) {
            for (int t = 0; t <= 40; t++) {
                if (!laws[l].takes(n, t).equals(laws[other].takes(n, t))) {
                    takes++;
                }
                if (laws[l].won(n, t) != laws[other].won(n, t)) {
                    first = first == -2 ? n * 100 + t : first;
                    winners++;
                }
            }
        }
        return what == 0 ? takes : what == 1 ? winners : first;
    }

    /** Of each take of a player: heap, last, take. */
    private static List<int[]> steps(Told told, int player) {
        List<int[]> all = new ArrayList<>();
        int left = told.heap;
        int last = 0;
        int turn = 0;
        for (int x : told.takes) {
            if (turn == player) {
                all.add(new int[] {left, last, x});
            }
            left -= x;
            last = x;
            turn = 1 - turn;
        }
        return all;
    }

    int judged(int g, int l, int player, int what) {
        if (noGame(g) || noLaw(l) || out(player, 0, 1) || out(what, 0, 3)) {
            return NONE;
        }
        int[] counts = new int[4];
        for (int[] s : steps(games[g], player)) {
            counts[3]++;
            counts[0] += laws[l].takes(s[0], s[1]).contains(s[2]) ? 0 : 1;
            counts[1] += laws[l].won(s[0], s[1]) ? 1 : 0;
            counts[2] += laws[l].good(s[0], s[1]).contains(s[2]) ? 1 : 0;
        }
        return counts[what];
    }

    int fromWhen(int l, int player) {
        if (noLaw(l) || out(player, 0, 1)) {
            return NONE;
        }
        List<Boolean> all = new ArrayList<>();
        for (Told told : games) {
            if (told != null) {
                for (int[] s : steps(told, player)) {
                    if (laws[l].won(s[0], s[1])) {
                        all.add(laws[l].good(s[0], s[1]).contains(s[2]));
                    }
                }
            }
        }
        int many = 0;
        while (many < all.size() && all.get(all.size() - 1 - many)) {
            many++;
        }
        return many;
    }

    int thought(int player) {
        if (out(player, 0, 1)) {
            return NONE;
        }
        int bits = 0;
        for (int l = 0; l < 4; l++) {
            if (laws[l] == null) {
                continue;
            }
            boolean fits = true;
            for (Told told : games) {
                if (told != null) {
                    for (int[] s : steps(told, player)) {
                        fits = fits && laws[l].takes(s[0], s[1]).contains(s[2]);
                        fits = fits && (!laws[l].won(s[0], s[1]) || laws[l].good(s[0], s[1]).contains(s[2]));
                    }
                }
            }
            bits |= fits ? 1 << l : 0;
        }
        return bits;
    }

    long chance(int g, int l, int player, int what) {
        if (noGame(g) || noLaw(l) || out(player, 0, 1) || out(what, 0, 1)) {
            return NONE;
        }
        java.math.BigInteger above = java.math.BigInteger.ONE;
        java.math.BigInteger below = java.math.BigInteger.ONE;
        for (int[] s : steps(games[g], player)) {
            if (laws[l].won(s[0], s[1])) {
                above = above.multiply(java.math.BigInteger.valueOf(laws[l].good(s[0], s[1]).size()));
                below = below.multiply(java.math.BigInteger.valueOf(laws[l].takes(s[0], s[1]).size()));
                java.math.BigInteger common = above.gcd(below);
                above = above.divide(common);
                below = below.divide(common);
                if (below.compareTo(java.math.BigInteger.valueOf(1000000000000L)) > 0) {
                    return -2;
                }
            }
        }
        return what == 0 ? above.longValueExact() : below.longValueExact();
    }

    // ---- by the stove ----

    private int stoveLast() {
        return stoveTakes.isEmpty() ? 0 : stoveTakes.peek();
    }

    boolean stove(int l, int heap) {
        if (noLaw(l) || out(heap, 0, 40)) {
            return false;
        }
        stoveLaw = l;
        stoveHeap = heap;
        stoveTakes.clear();
        return true;
    }

    int take(int x) {
        if (laws[stoveLaw] == null || !laws[stoveLaw].takes(stoveHeap, stoveLast()).contains(x)) {
            return NONE;
        }
        stoveHeap -= x;
        stoveTakes.push(x);
        return stoveHeap;
    }

    private static int hers(OneLaw law, int n, int t) {
        List<Integer> good = law.good(n, t);
        return good.isEmpty() ? law.takes(n, t).get(0) : good.get(0);
    }

    private static int next(int x) {
        return (int) ((25173L * x + 13849L) % 65536L);
    }

    int she() {
        if (laws[stoveLaw] == null) {
            return NONE;
        }
        if (laws[stoveLaw].takes(stoveHeap, stoveLast()).isEmpty()) {
            return -2;
        }
        int x = hers(laws[stoveLaw], stoveHeap, stoveLast());
        take(x);
        return x;
    }

    int child() {
        if (laws[stoveLaw] == null) {
            return NONE;
        }
        List<Integer> takes = laws[stoveLaw].takes(stoveHeap, stoveLast());
        if (takes.isEmpty()) {
            return -2;
        }
        seed = next(seed);
        int x = takes.get(seed % takes.size());
        take(x);
        return x;
    }

    int back() {
        if (stoveTakes.isEmpty()) {
            return -2;
        }
        int x = stoveTakes.pop();
        stoveHeap += x;
        return x;
    }

    /** The draw behind the game, whether she won, how many takes. */
    private static int[] evening(OneLaw law, int heap, int begins, int from) {
        int x = from;
        int n = heap;
        int t = 0;
        int turn = begins;
        int many = 0;
        while (!law.takes(n, t).isEmpty()) {
            if (turn == 0) {
                t = hers(law, n, t);
            } else {
                x = next(x);
                t = law.takes(n, t).get(x % law.takes(n, t).size());
            }
            n -= t;
            many++;
            turn = 1 - turn;
        }
        return new int[] {x, turn == 1 ? 1 : 0, many};
    }

    int against(int l, int heap, int begins, int what) {
        if (noState(l, heap, 0) || out(begins, 0, 1) || out(what, 0, 1)) {
            return NONE;
        }
        return evening(laws[l], heap, begins, seed)[1 + what];
    }

    int evenings(int n, int l, int heap, int begins) {
        if (noState(l, heap, 0) || out(begins, 0, 1) || out(n, 1, 30)) {
            return NONE;
        }
        int won = 0;
        int x = seed;
        for (int i = 0; i < n; i++) {
            int[] end = evening(laws[l], heap, begins, x);
            x = end[0];
            won += end[1];
        }
        return won;
    }

    boolean seed(int x) {
        if (out(x, 0, 65535)) {
            return false;
        }
        seed = x;
        return true;
    }

    int keep() {
        kept = new Object[] {stoveLaw, stoveHeap, new ArrayDeque<>(stoveTakes), seed};
        return stoveHeap;
    }

    @SuppressWarnings("unchecked")
    boolean undo() {
        if (kept == null) {
            return false;
        }
        stoveLaw = (Integer) kept[0];
        stoveHeap = (Integer) kept[1];
        stoveTakes = new ArrayDeque<>((Deque<Integer>) kept[2]);
        seed = (Integer) kept[3];
        return true;
    }

    int check(int l, int n) {
        if (noLaw(l) || out(n, 0, 40) || n > tape.size()) {
            return -2;
        }
        int[] told = cut(n);
        List<Integer> lost = laws[l].lost();
        for (int i = 0; i < n; i++) {
            if (told[i] != (i < lost.size() ? lost.get(i) : 0)) {
                return i;
            }
        }
        return NONE;
    }

    int count(int what) {
        int told = 0;
        switch (what) {
            case 0: return stoveHeap;
            case 1: return stoveLast();
            case 2: return stoveLaw;
            case 3: return stoveTakes.size();
            case 4:
                for (int l = 0; l < 4; l++) {
                    told += noLaw(l) ? 0 : 1 << l;
                }
                return told;
            case 5:
                for (int g = 0; g < 9; g++) {
                    told += noGame(g) ? 0 : 1 << g;
                }
                return told;
            case 6: return tape.size();
            case 7: return seed;
            default: break;
        }
        if (!out(what, 10, 13)) {
            return noLaw(what - 10) ? NONE : laws[what - 10].rules.size();
        }
        if (!out(what, 20, 28)) {
            return noGame(what - 20) ? NONE : games[what - 20].takes.size();
        }
        return NONE;
    }
}
