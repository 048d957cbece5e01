import java.util.Arrays;

/**
 * A heap of matches from which two take by turns, each as much as a law lets by what was taken
 * last; who takes the last has won. Laws and played games are told as texts on a tape.
 *
 * <p>Sets of takes or heaps are bits of a long: bit x stands for x.
 */
public final class DoubleHeap {
    public static final int NONE = -1;

    /** The question is right, but there is nothing that answers it. */
    private static final int NOTHING = -2;
    private static final int NOT_SO_MANY = -4;
    private static final int HOW_MANY = 100;
    private static final int LAWS = 4;
    private static final int GAMES = 9;
    private static final int MOST = 40;
    private static final int WIDE = MOST + 1;
    private static final int CELLS = WIDE * WIDE;
    private static final int MOST_TWO = 20;
    private static final int MOST_NUMBER = 200;
    private static final int MOST_GROWTH = 3;
    private static final int MOST_EVENINGS = 30;
    private static final int LAW_TEXT = 160;
    private static final int GAME_TEXT = 130;
    private static final int MOST_SEED = 65535;
    private static final long MOST_BELOW = 1000000000000L;

    /** What can't stand where it stands. */
    private static final int MISPLACED = 1;

    private final Tape tape = new Tape();
    private final Law[] laws = new Law[LAWS];
    private final Tale[] tales = new Tale[GAMES];
    private final LawReader lawReader = new LawReader();
    private final Tale draftTale = new Tale();
    private final Walks walks = new Walks();
    private final Rivals rivals = new Rivals();
    private final Numbers numbers = new Numbers();
    private final Evening evening = new Evening();
    private final Stove stove = new Stove();
    private final Stove keptStove = new Stove();
    private boolean wasKept = false;
    private int draw = 1;
    private int keptDraw = 1;

    public DoubleHeap() {
        for (int l = 0; l < LAWS; l++) {
            laws[l] = new Law();
        }
        for (int g = 0; g < GAMES; g++) {
            tales[g] = new Tale();
        }
    }

    public int feed(int a, int b, int c, int d, int e) {
        if (!tape.hasRoom()) {
            return NONE;
        }
        tape.append(a);
        tape.append(b);
        tape.append(c);
        tape.append(d);
        tape.append(e);
        return tape.size;
    }

    public int law(int l, int n) {
        Law law = lawAt(l);
        if (law == null || n < 1 || n > LAW_TEXT || n > tape.size) {
            return NONE;
        }
        int answer = lawReader.read(tape, n);
        tape.clear();
        if (answer >= 0) {
            law.adopt(lawReader.draft);
        }
        return answer;
    }

    public int game(int g, int n) {
        Tale tale = taleAt(g);
        if (tale == null || n < 1 || n > GAME_TEXT || n > tape.size) {
            return NONE;
        }
        int answer = draftTale.read(tape, n);
        tape.clear();
        if (answer >= 0) {
            tale.adopt(draftTale);
        }
        return answer;
    }

    public int state(int l, int heap, int last, int what) {
        Law law = readyLaw(l, heap, last);
        if (law == null) {
            return NONE;
        }
        long good = law.goodAt(heap, last);
        switch (what) {
            case 0:
                return good != 0 ? 1 : 0;
            case 1:
                return least(good);
            case 2:
                return greatest(good);
            case 3:
                return Long.bitCount(good);
            case 4:
                return Long.bitCount(law.takesAt(heap, last));
            case 5:
                return walks.measure(law, Walks.LENGTH, heap, last);
            case 6:
                return shyest(l, good, heap, last);
            default:
                return NONE;
        }
    }

    public long takes(int l, int heap, int last, int what) {
        Law law = readyLaw(l, heap, last);
        if (law == null) {
            return NONE;
        }
        switch (what) {
            case 0:
                return law.takesAt(heap, last);
            case 1:
                return law.goodAt(heap, last);
            case 2:
                return walks.rows(law, heap, last);
            case 3:
                return walks.wonRows(law, heap, last);
            default:
                return NONE;
        }
    }

    public long lost(int l) {
        Law law = toldLaw(l);
        return law == null ? NONE : law.lostNumbers();
    }

    public int lostAt(int l, int k) {
        Law law = toldLaw(l);
        if (law == null || k < 0) {
            return NONE;
        }
        numbers.load(law.lostNumbers());
        return k < numbers.size ? numbers.at(k) : NOTHING;
    }

    public int ends(int l, int heap, int last, int what) {
        return rowAnswer(l, Walks.SOONEST, heap, last, what);
    }

    public int sums(int l, int number, int what) {
        Law law = toldLaw(l);
        if (law == null || number < 0 || number > MOST_NUMBER || what < 0 || what > 1) {
            return NONE;
        }
        numbers.load(law.lostNumbers());
        numbers.countWays(number);
        if (what == 0) {
            return numbers.ways(number);
        }
        return numbers.ways(number) == 0 ? NOTHING : Long.bitCount(numbers.greatestFirst(number));
    }

    public long sum(int l, int number) {
        Law law = toldLaw(l);
        if (law == null || number < 0 || number > MOST_NUMBER) {
            return NONE;
        }
        numbers.load(law.lostNumbers());
        numbers.countWays(number);
        return numbers.ways(number) == 0 ? NOTHING : numbers.greatestFirst(number);
    }

    public int two(int l, int first, int second, int last, int what) {
        Law law = toldLaw(l);
        if (law == null || first < 0 || first > MOST_TWO || second < 0 || second > MOST_TWO
                || last < 0 || last > MOST || what < 0 || what > 1) {
            return NONE;
        }
        int good = rivals.goodOfTwo(law, first, second, last);
        if (what == 1) {
            return good;
        }
        return good == NOTHING ? 0 : 1;
    }

    public int growing(int l, int heap, int last, int by, int what) {
        Law law = toldLaw(l);
        if (law == null || !isState(heap, last) || by < 0 || by > MOST_GROWTH
                || what < 0 || what > 1) {
            return NONE;
        }
        return wonOrLeast(rivals.goodGrowing(law, heap, last, by), what);
    }

    public int each(int l, int other, int heap, int last, int what) {
        Law own = toldLaw(l);
        Law others = toldLaw(other);
        if (own == null || others == null || !isState(heap, last) || what < 0 || what > 1) {
            return NONE;
        }
        return wonOrLeast(rivals.goodAgainst(own, others, heap, last), what);
    }

    public int ones(int l, int heap, int last) {
        Law law = toldLaw(l);
        if (law == null || !isState(heap, last)) {
            return NONE;
        }
        return rivals.onesWin(law, heap, last) ? 1 : 0;
    }

    public int passes(int l, int heap, int last, int own, int others, int what) {
        Law law = toldLaw(l);
        if (law == null || !isState(heap, last) || own < 0 || own > 1 || others < 0 || others > 1
                || what < 0 || what > 1) {
            return NONE;
        }
        rivals.fillPasses(law, heap);
        boolean won = rivals.wonWithPasses(law, heap, last, own, others);
        boolean byTake = rivals.goodWithPasses(law, heap, last, own, others) != 0;
        return won && (what == 0 || !byTake) ? 1 : 0;
    }

    public int hope(int l, int heap, int last, int who, int what) {
        Law law = toldLaw(l);
        if (law == null || !isState(heap, last) || who < 0 || who > 1 || what < 0 || what > 1) {
            return NONE;
        }
        walks.fillHopes(law, heap, last);
        if (what == 1) {
            return who == 0 ? walks.hopefulTake(law, heap, last) : NOTHING;
        }
        return who == 0 ? walks.hopeOfHers(heap, last) : walks.hopeOfChilds(heap, last);
    }

    public int pattern(int l, int what) {
        Law law = toldLaw(l);
        if (law == null || what < 0 || what > 2) {
            return NONE;
        }
        numbers.load(law.lostNumbers());
        if (what == 2) {
            return numbers.size;
        }
        int lag = numbers.leastLag();
        return what == 0 || lag == NOTHING ? lag : numbers.lagsFrom(lag);
    }

    public int simple(int l, int what) {
        Law law = toldLaw(l);
        if (law == null || what < 0 || what > 1) {
            return NONE;
        }
        long lost = law.lostNumbers();
        return what == 0 ? numbers.simpleOnes(lost) : numbers.firstSimple(lost);
    }

    public int longest(int l, int heap, int last, int what) {
        return rowAnswer(l, Walks.LATEST, heap, last, what);
    }

    public int unlike(int l, int other, int what) {
        Law law = readyLaw(l, MOST, 0);
        Law than = readyLaw(other, MOST, 0);
        if (law == null || than == null || what < 0 || what > 2) {
            return NONE;
        }
        int unlikes = 0;
        int first = NOTHING;
        for (int heap = 0; heap <= MOST; heap++) {
            for (int last = 0; last <= MOST; last++) {
                boolean differs = what == 0
                        ? law.takesAt(heap, last) != than.takesAt(heap, last)
                        : (law.goodAt(heap, last) != 0) != (than.goodAt(heap, last) != 0);
                if (differs && unlikes == 0) {
                    first = 100 * heap + last;
                }
                unlikes += differs ? 1 : 0;
            }
        }
        return what == 2 ? first : unlikes;
    }

    public int judged(int g, int l, int player, int what) {
        Tale tale = toldTale(g);
        if (tale == null || !isPlayer(player) || what < 0 || what > 3) {
            return NONE;
        }
        Law law = readyLaw(l, tale.heap, 0);
        return law == null ? NONE : tale.tally(law, player, what);
    }

    public int fromWhen(int l, int player) {
        Law law = readyLaw(l, MOST, 0);
        if (law == null || !isPlayer(player)) {
            return NONE;
        }
        int row = 0;
        for (int g = 0; g < GAMES; g++) {
            Tale tale = toldTale(g);
            if (tale != null) {
                row = tale.goodAtTheEnd(law, player, row);
            }
        }
        return row;
    }

    public int thought(int player) {
        if (!isPlayer(player)) {
            return NONE;
        }
        int fitting = 0;
        for (int l = 0; l < LAWS; l++) {
            Law law = readyLaw(l, MOST, 0);
            fitting |= law != null && fits(law, player) ? 1 << l : 0;
        }
        return fitting;
    }

    public long chance(int g, int l, int player, int what) {
        Tale tale = toldTale(g);
        if (tale == null || !isPlayer(player) || what < 0 || what > 1) {
            return NONE;
        }
        Law law = readyLaw(l, tale.heap, 0);
        if (law == null) {
            return NONE;
        }
        long above = 1;
        long below = 1;
        for (int i = player; i < tale.size; i += 2) {
            long good = law.goodAt(tale.heapAt(i), tale.lastAt(i));
            if (good != 0) {
                above *= Long.bitCount(good);
                below *= Long.bitCount(law.takesAt(tale.heapAt(i), tale.lastAt(i)));
                long divisor = Math.max(1, commonDivisor(above, below));
                above /= divisor;
                below /= divisor;
            }
            if (below > MOST_BELOW) {
                return NOTHING;
            }
        }
        return what == 0 ? above : below;
    }

    public boolean stove(int l, int heap) {
        if (toldLaw(l) == null || heap < 0 || heap > MOST) {
            return false;
        }
        stove.begin(l, heap);
        return true;
    }

    public int take(int x) {
        Law law = toldLaw(stove.law);
        if (law == null || !has(law.takesAt(stove.heap, stove.last), x)) {
            return NONE;
        }
        stove.move(x);
        return stove.heap;
    }

    public int she() {
        Law law = readyLaw(stove.law, stove.heap, stove.last);
        if (law == null) {
            return NONE;
        }
        int x = law.herTake(stove.heap, stove.last);
        stove.move(x);
        return x;
    }

    public int child() {
        Law law = toldLaw(stove.law);
        if (law == null) {
            return NONE;
        }
        long takes = law.takesAt(stove.heap, stove.last);
        if (takes == 0) {
            return NOTHING;
        }
        draw = nextDraw(draw);
        int x = drawn(takes, draw);
        stove.move(x);
        return x;
    }

    public int back() {
        return stove.giveBack();
    }

    public int against(int l, int heap, int begins, int what) {
        Law law = readyLaw(l, heap, 0);
        if (law == null || !isPlayer(begins) || what < 0 || what > 1) {
            return NONE;
        }
        evening.draw = draw;
        boolean won = evening.wonByHer(law, heap, begins == 0);
        if (what == 1) {
            return evening.taken;
        }
        return won ? 1 : 0;
    }

    public int evenings(int n, int l, int heap, int begins) {
        Law law = readyLaw(l, heap, 0);
        if (law == null || !isPlayer(begins) || n < 1 || n > MOST_EVENINGS) {
            return NONE;
        }
        evening.draw = draw;
        int won = 0;
        for (int i = 0; i < n; i++) {
            won += evening.wonByHer(law, heap, begins == 0) ? 1 : 0;
        }
        return won;
    }

    public boolean seed(int x) {
        if (x < 0 || x > MOST_SEED) {
            return false;
        }
        draw = x;
        return true;
    }

    public int keep() {
        keptStove.copy(stove);
        keptDraw = draw;
        wasKept = true;
        return stove.heap;
    }

    public boolean undo() {
        if (!wasKept) {
            return false;
        }
        stove.copy(keptStove);
        draw = keptDraw;
        return true;
    }

    public int check(int l, int n) {
        Law law = toldLaw(l);
        if (law == null || n < 0 || n > MOST || n > tape.size) {
            return NOTHING;
        }
        numbers.load(law.lostNumbers());
        int wrong = NONE;
        for (int i = 0; i < n && wrong == NONE; i++) {
            if (tape.at(i) != numbers.at(i)) {
                wrong = i;
            }
        }
        tape.clear();
        return wrong;
    }

    public int count(int what) {
        switch (what) {
            case 0:
                return stove.heap;
            case 1:
                return stove.last;
            case 2:
                return stove.law;
            case 3:
                return stove.size;
            case 4:
                return toldLaws();
            case 5:
                return toldTales();
            case 6:
                return tape.size;
            case 7:
                return draw;
            default:
                return sizeOfText(what);
        }
    }

    private int toldLaws() {
        int told = 0;
        for (int l = 0; l < LAWS; l++) {
            told |= toldLaw(l) != null ? 1 << l : 0;
        }
        return told;
    }

    private int toldTales() {
        int told = 0;
        for (int g = 0; g < GAMES; g++) {
            told |= toldTale(g) != null ? 1 << g : 0;
        }
        return told;
    }

    private int sizeOfText(int what) {
        if (what >= 10 && what < 10 + LAWS) {
            Law law = toldLaw(what - 10);
            return law == null ? NONE : law.rules.count;
        }
        if (what >= 20 && what < 20 + GAMES) {
            Tale tale = toldTale(what - 20);
            return tale == null ? NONE : tale.size;
        }
        return NONE;
    }

    /** The law, told or not; null if there is no such one. */
    private Law lawAt(int l) {
        return l >= 0 && l < LAWS ? laws[l] : null;
    }

    /** The law, or null if there is no such one or it is not told. */
    private Law toldLaw(int l) {
        Law law = lawAt(l);
        return law != null && law.told ? law : null;
    }

    /** The told law, made ready to say what is good up to a heap; null if one of these is none. */
    private Law readyLaw(int l, int heap, int last) {
        Law law = toldLaw(l);
        if (law == null || !isState(heap, last)) {
            return null;
        }
        law.ready(heap);
        return law;
    }

    private Tale taleAt(int g) {
        return g >= 0 && g < GAMES ? tales[g] : null;
    }

    private Tale toldTale(int g) {
        Tale tale = taleAt(g);
        return tale != null && tale.told ? tale : null;
    }

    /** Whether a player took by a law all the time, and well where that could be. */
    private boolean fits(Law law, int player) {
        for (int g = 0; g < GAMES; g++) {
            Tale tale = toldTale(g);
            if (tale != null && (tale.tally(law, player, Tale.WRONG) != 0
                    || tale.tally(law, player, Tale.COULD) != tale.tally(law, player, Tale.GOOD))) {
                return false;
            }
        }
        return true;
    }

    /** Of the good takes the one that is good by the fewest of the other told laws. */
    private int shyest(int l, long good, int heap, int last) {
        int best = NOTHING;
        int fewest = LAWS;
        for (int x = 1; x <= heap; x++) {
            if (has(good, x)) {
                int showing = 0;
                for (int i = 0; i < LAWS; i++) {
                    Law law = i == l ? null : toldLaw(i);
                    if (law != null) {
                        law.ready(heap);
                        showing += has(law.goodAt(heap, last), x) ? 1 : 0;
                    }
                }
                if (showing < fewest) {
                    fewest = showing;
                    best = x;
                }
            }
        }
        return best;
    }

    private int rowAnswer(int l, int kind, int heap, int last, int what) {
        Law law = toldLaw(l);
        boolean asked = what == HOW_MANY || what >= 0 && what < MOST;
        if (law == null || !isState(heap, last) || !asked) {
            return NONE;
        }
        int all = walks.measure(law, kind, heap, last);
        if (what == HOW_MANY) {
            return all;
        }
        return what < all ? walks.takeOfRow(law, kind, heap, last, what) : NOT_SO_MANY;
    }

    private static int wonOrLeast(long good, int what) {
        if (what == 1) {
            return least(good);
        }
        return good != 0 ? 1 : 0;
    }

    private static boolean isState(int heap, int last) {
        return heap >= 0 && heap <= MOST && last >= 0 && last <= MOST;
    }

    private static boolean isPlayer(int player) {
        return player == 0 || player == 1;
    }

    private static boolean isDigit(int sign) {
        return sign >= '0' && sign <= '9';
    }

    private static int fault(int number, int place) {
        return -1000 * number - place;
    }

    private static int cell(int heap, int last) {
        return heap * WIDE + last;
    }

    private static boolean has(long bits, int x) {
        return x >= 0 && x <= MOST && (bits >>> x & 1L) != 0;
    }

    private static int least(long bits) {
        for (int x = 0; x <= MOST; x++) {
            if (has(bits, x)) {
                return x;
            }
        }
        return NOTHING;
    }

    private static int greatest(long bits) {
        for (int x = MOST; x >= 0; x--) {
            if (has(bits, x)) {
                return x;
            }
        }
        return NOTHING;
    }

    private static int nextDraw(int x) {
        return (25173 * x + 13849) & MOST_SEED;
    }

    /** The take that a draw picks out of some. */
    private static int drawn(long takes, int x) {
        int many = Long.bitCount(takes);
        int ahead = many == 0 ? 0 : x % many;
        for (int y = 1; y <= MOST; y++) {
            if (has(takes, y)) {
                if (ahead == 0) {
                    return y;
                }
                ahead--;
            }
        }
        return NOTHING;
    }

    private static long commonDivisor(long a, long b) {
        long great = a;
        long small = b;
        // Euclid's steps on numbers below 2^63 are fewer than 100.
        for (int i = 0; i < 100 && small != 0; i++) {
            long rest = great % small;
            great = small;
            small = rest;
        }
        return great;
    }

    /** Bytes that texts and rows are told by. */
    private static final class Tape {
        private static final int ROOM = 260;
        private static final int A_FEED = 20;

        private final int[] bytes = new int[ROOM];
        private int size = 0;

        private boolean hasRoom() {
            return size + A_FEED <= ROOM;
        }

        private void append(int four) {
            for (int shift = 24; shift >= 0 && size < ROOM; shift -= 8) {
                bytes[size] = four >>> shift & 255;
                size++;
            }
        }

        /** The byte at a place, or NONE. */
        private int at(int place) {
            return place >= 0 && place < size ? bytes[place] : NONE;
        }

        private void clear() {
            size = 0;
        }
    }

    /**
     * The rules of a law as steps for a machine with a stack. A step is named by the sign that it
     * comes from; a joiner (| or &) has as its value the step to go on with if it settles its C.
     */
    private static final class Rules {
        private static final int MOST_RULES = 8;
        /** Each byte of a text makes one step at most. */
        private static final int STEPS = LAW_TEXT;
        private static final int NUMBER = '0';
        private static final int END = ';';
        /** Two for each of six brackets, and some for what stands around them. */
        private static final int DEEPEST = 24;

        private final int[] signs = new int[STEPS];
        private final int[] values = new int[STEPS];
        private int size = 0;
        private final int[] letters = new int[MOST_RULES];
        private final int[] amounts = new int[MOST_RULES];
        private final int[] conditions = new int[MOST_RULES];
        private int count = 0;
        private final int[] stack = new int[DEEPEST];
        private int top = 0;
        private boolean refused = false;

        private void clear() {
            size = 0;
            count = 0;
        }

        private void adopt(Rules other) {
            size = other.size;
            count = other.count;
            System.arraycopy(other.signs, 0, signs, 0, STEPS);
            System.arraycopy(other.values, 0, values, 0, STEPS);
            System.arraycopy(other.letters, 0, letters, 0, MOST_RULES);
            System.arraycopy(other.amounts, 0, amounts, 0, MOST_RULES);
            System.arraycopy(other.conditions, 0, conditions, 0, MOST_RULES);
        }

        private void step(int sign, int value) {
            if (size < STEPS) {
                signs[size] = sign;
                values[size] = value;
                size++;
            }
        }

        /** Sends all joiners of a chain (each has the one before as its value) to the next step. */
        private void settle(int chain) {
            int joiner = chain;
            for (int i = 0; i < STEPS && joiner >= 0 && joiner < size; i++) {
                int before = values[joiner];
                values[joiner] = size;
                joiner = before;
            }
        }

        private void addRule(int letter, int amount, int condition) {
            if (count < MOST_RULES) {
                letters[count] = letter;
                amounts[count] = amount;
                conditions[count] = condition;
                count++;
            }
        }

        /** How many may be taken at most. */
        private int most(int heap, int last) {
            for (int i = 0; i < count && i < MOST_RULES; i++) {
                if (letters[i] == 'm' && run(conditions[i], heap, last, 0) != 0) {
                    return Math.max(0, Math.min(MOST, run(amounts[i], heap, last, 0)));
                }
            }
            return 0;
        }

        private boolean forbids(int heap, int last, int x) {
            for (int i = 0; i < count && i < MOST_RULES; i++) {
                if (letters[i] == 'f' && run(conditions[i], heap, last, x) != 0) {
                    return true;
                }
            }
            return false;
        }

        /** What the steps come to; 0 if they are refused, as an E is 0 then and a C does not hold. */
        private int run(int start, int heap, int last, int x) {
            top = 0;
            refused = false;
            for (int at = start; at >= 0 && at < size && !refused && signs[at] != END; at++) {
                int sign = signs[at];
                switch (sign) {
                    case NUMBER:
                        push(values[at]);
                        break;
                    case 'n':
                        push(heap);
                        break;
                    case 't':
                        push(last);
                        break;
                    case 'x':
                        push(x);
                        break;
                    case '!':
                        push(1 - pop());
                        break;
                    case '|':
                    case '&':
                        int held = pop();
                        if (held == (sign == '|' ? 1 : 0)) {
                            push(held);
                            // The loop itself goes one step farther.
                            at = Math.max(at, values[at] - 1);
                        }
                        break;
                    default:
                        int right = pop();
                        push(joined(sign, pop(), right));
                        break;
                }
            }
            return refused ? 0 : pop();
        }

        private void push(int value) {
            if (top >= 0 && top < DEEPEST) {
                stack[top] = value;
                top++;
            }
        }

        private int pop() {
            if (top < 1 || top > DEEPEST) {
                return 0;
            }
            top--;
            return stack[top];
        }

        private int joined(int sign, int left, int right) {
            switch (sign) {
                case '+':
                    return left + right;
                case '-':
                    return left - right;
                case '*':
                    return left * right;
                case '<':
                    return left < right ? 1 : 0;
                case '>':
                    return left > right ? 1 : 0;
                case '=':
                    return left == right ? 1 : 0;
                default:
                    break;
            }
            if (right == 0) {
                refused = true;
                return 0;
            }
            return sign == '/' ? left / right : left % right;
        }
    }

    /** Reads the text of a law from the left on, up to the first fault. */
    private static final class LawReader {
        private static final int SIXTH_DIGIT = 2;
        private static final int NINTH_RULE = 4;
        private static final int TOO_DEEP = 5;
        private static final int MOST_DIGITS = 5;
        private static final int MOST_OPEN = 6;

        private final Rules draft = new Rules();
        private final int[] text = new int[LAW_TEXT];
        private int size = 0;
        private int place = 0;
        private int failed = 0;

        /** How many rules the text has, or its fault. */
        private int read(Tape tape, int n) {
            load(tape, n);
            // One more than there may be, so that it is found to be too many.
            for (int i = 0; i <= Rules.MOST_RULES && failed == 0; i++) {
                int letter = letter();
                int amount = draft.size;
                if (letter == 'm') {
                    expression(0, 0);
                    draft.step(Rules.END, 0);
                }
                int condition = draft.size;
                expect('(');
                condition(1, 0);
                expect(')');
                draft.step(Rules.END, 0);
                draft.addRule(letter, amount, condition);
                if (place >= size) {
                    break;
                }
                expect(';');
            }
            return failed != 0 ? failed : draft.count;
        }

        private void load(Tape tape, int n) {
            size = Math.max(0, Math.min(n, LAW_TEXT));
            for (int i = 0; i < size; i++) {
                text[i] = tape.at(i);
            }
            place = 0;
            failed = 0;
            draft.clear();
        }

        private int letter() {
            int letter = sign();
            if (letter != 'm' && letter != 'f') {
                fail(MISPLACED);
            } else if (draft.count >= Rules.MOST_RULES) {
                fail(NINTH_RULE);
            }
            place++;
            return letter;
        }

        /** Level 0: parts with a | between two; level 1: tests with an & between two. */
        private void condition(int open, int level) {
            int joiner = level == 0 ? '|' : '&';
            int chain = NONE;
            for (int i = 0; i <= size && failed == 0; i++) {
                if (level == 0) {
                    condition(open, 1);
                } else {
                    test(open);
                }
                if (sign() != joiner) {
                    break;
                }
                place++;
                draft.step(joiner, chain);
                chain = draft.size - 1;
            }
            draft.settle(chain);
        }

        private void test(int open) {
            int sign = sign();
            if (sign == '!') {
                if (mayOpen(open)) {
                    place++;
                    test(open + 1);
                    draft.step('!', 0);
                }
            } else if (sign == '(') {
                if (mayOpen(open)) {
                    place++;
                    condition(open + 1, 0);
                    expect(')');
                }
            } else {
                expression(open, 0);
                int comparing = sign();
                if (comparing != '<' && comparing != '>' && comparing != '=') {
                    fail(MISPLACED);
                }
                place++;
                expression(open, 0);
                draft.step(comparing, 0);
            }
        }

        /** Level 0: terms with + or - between two; level 1: factors with * / % between two. */
        private void expression(int open, int level) {
            int joiner = 0;
            for (int i = 0; i <= size && failed == 0; i++) {
                if (level == 0) {
                    expression(open, 1);
                } else {
                    factor(open);
                }
                if (joiner != 0) {
                    draft.step(joiner, 0);
                }
                joiner = sign();
                boolean joins = level == 0 ? joiner == '+' || joiner == '-'
                        : joiner == '*' || joiner == '/' || joiner == '%';
                if (!joins) {
                    break;
                }
                place++;
            }
        }

        private void factor(int open) {
            int sign = sign();
            if (sign == '[') {
                if (mayOpen(open)) {
                    place++;
                    expression(open + 1, 0);
                    expect(']');
                }
                return;
            }
            if (sign == 'n' || sign == 't' || sign == 'x') {
                place++;
                draft.step(sign, 0);
                return;
            }
            int value = 0;
            int digits = 0;
            for (; digits < MOST_DIGITS && isDigit(sign()); digits++) {
                value = 10 * value + sign() - '0';
                place++;
            }
            if (digits == 0) {
                fail(MISPLACED);
            } else if (isDigit(sign())) {
                fail(SIXTH_DIGIT);
            }
            draft.step(Rules.NUMBER, value);
        }

        private boolean mayOpen(int open) {
            if (open >= MOST_OPEN) {
                fail(TOO_DEEP);
            }
            return failed == 0;
        }

        /** The sign to be read now; NONE at the end, and behind a fault. */
        private int sign() {
            return failed == 0 && place >= 0 && place < size ? text[place] : NONE;
        }

        private void expect(int wanted) {
            if (sign() != wanted) {
                fail(MISPLACED);
            }
            place++;
        }

        private void fail(int number) {
            if (failed == 0) {
                failed = -1000 * number - place;
            }
        }
    }

    /** A told law, and what of it has been reckoned already. */
    private static final class Law {
        private static final long UNKNOWN = -1;

        private final Rules rules = new Rules();
        private boolean told = false;
        private final long[] takes = new long[CELLS];
        private final long[] losing = new long[WIDE];
        private int readyHeaps = 0;

        private void adopt(Rules draft) {
            rules.adopt(draft);
            told = true;
            Arrays.fill(takes, UNKNOWN);
            readyHeaps = 0;
        }

        /** A heap's good takes rest on those of the smaller ones, so these come first. */
        private void ready(int heap) {
            for (int h = readyHeaps; h <= heap && h < WIDE; h++) {
                long bits = 0;
                for (int x = 1; x <= h; x++) {
                    if (goodAt(h - x, x) == 0) {
                        bits |= 1L << x;
                    }
                }
                losing[h] = bits;
                readyHeaps = h + 1;
            }
        }

        private long takesAt(int heap, int last) {
            if (!isState(heap, last)) {
                return 0;
            }
            int at = cell(heap, last);
            if (takes[at] == UNKNOWN) {
                int most = Math.min(heap, rules.most(heap, last));
                long bits = 0;
                for (int x = 1; x <= most; x++) {
                    if (!rules.forbids(heap, last, x)) {
                        bits |= 1L << x;
                    }
                }
                takes[at] = bits;
            }
            return takes[at];
        }

        /** Of a heap that is ready the takes behind which the other has lost, allowed or not. */
        private long losingFrom(int heap) {
            return heap >= 0 && heap < readyHeaps && heap < WIDE ? losing[heap] : 0;
        }

        /** Only of heaps that are ready. */
        private long goodAt(int heap, int last) {
            return takesAt(heap, last) & losingFrom(heap);
        }

        private long lostNumbers() {
            ready(MOST);
            long bits = 0;
            for (int h = 1; h <= MOST; h++) {
                if (goodAt(h, 0) == 0) {
                    bits |= 1L << h;
                }
            }
            return bits;
        }

        private int herTake(int heap, int last) {
            long good = goodAt(heap, last);
            return least(good != 0 ? good : takesAt(heap, last));
        }
    }

    /** A game that was played. */
    private static final class Tale {
        private static final int WRONG = 0;
        private static final int COULD = 1;
        private static final int GOOD = 2;
        private static final int HEAP_TOO_GREAT = 2;
        private static final int NO_TAKE = 3;
        private static final int TOO_MANY = 4;
        private static final int MOST_DIGITS = 2;

        private boolean told = false;
        private int heap = 0;
        private int size = 0;
        private final int[] takes = new int[MOST];
        private final int[] heaps = new int[MOST];

        private void adopt(Tale draft) {
            told = true;
            heap = draft.heap;
            size = draft.size;
            System.arraycopy(draft.takes, 0, takes, 0, MOST);
            System.arraycopy(draft.heaps, 0, heaps, 0, MOST);
        }

        /** How many takes the text tells, or its fault. */
        private int read(Tape tape, int n) {
            int colon = digitsEnd(tape, n, 0);
            heap = number(tape, 0, colon);
            size = 0;
            if (colon == 0) {
                return fault(MISPLACED, 0);
            }
            if (heap > MOST) {
                return fault(HEAP_TOO_GREAT, 0);
            }
            if (colon >= n || tape.at(colon) != ':') {
                return fault(MISPLACED, colon);
            }
            return colon + 1 == n ? 0 : readTakes(tape, n, colon + 1);
        }

        private int readTakes(Tape tape, int n, int start) {
            int left = heap;
            int place = start;
            for (int i = 0; i <= MOST; i++) {
                int end = digitsEnd(tape, n, place);
                if (end == place) {
                    return fault(MISPLACED, place);
                }
                if (size >= MOST) {
                    return fault(TOO_MANY, place);
                }
                int x = number(tape, place, end);
                if (x == 0 || x > left) {
                    return fault(NO_TAKE, place);
                }
                heaps[size] = left;
                takes[size] = x;
                size++;
                left -= x;
                if (end == n) {
                    break;
                }
                if (tape.at(end) != ',') {
                    return fault(MISPLACED, end);
                }
                place = end + 1;
            }
            return size;
        }

        private static int digitsEnd(Tape tape, int n, int start) {
            int end = start;
            for (int i = 0; i < MOST_DIGITS && end < n && isDigit(tape.at(end)); i++) {
                end++;
            }
            return end;
        }

        private static int number(Tape tape, int start, int end) {
            int value = 0;
            for (int i = start; i < end; i++) {
                value = 10 * value + tape.at(i) - '0';
            }
            return value;
        }

        private int takeAt(int i) {
            return i >= 0 && i < size && i < MOST ? takes[i] : 0;
        }

        /** How many there were ahead of a take. */
        private int heapAt(int i) {
            return i >= 0 && i < size && i < MOST ? heaps[i] : 0;
        }

        /** What was taken ahead of a take. */
        private int lastAt(int i) {
            return takeAt(i - 1);
        }

        /** How many of a player's takes were wrong, could be good, were so; else how many in all. */
        private int tally(Law law, int player, int what) {
            int many = 0;
            for (int i = player; i < size; i += 2) {
                long good = law.goodAt(heapAt(i), lastAt(i));
                boolean counts;
                if (what == WRONG) {
                    counts = !has(law.takesAt(heapAt(i), lastAt(i)), takeAt(i));
                } else if (what == COULD) {
                    counts = good != 0;
                } else {
                    counts = what != GOOD || has(good, takeAt(i));
                }
                many += counts ? 1 : 0;
            }
            return many;
        }

        /** How many were good to the end without a break, if so many were ahead of this game. */
        private int goodAtTheEnd(Law law, int player, int ahead) {
            int row = ahead;
            for (int i = player; i < size; i += 2) {
                long good = law.goodAt(heapAt(i), lastAt(i));
                if (good != 0) {
                    row = has(good, takeAt(i)) ? row + 1 : 0;
                }
            }
            return row;
        }
    }

    /** The game by the stove. */
    private static final class Stove {
        private int law = 0;
        private int heap = 0;
        private int last = 0;
        private int size = 0;
        private final int[] takes = new int[MOST];

        private void begin(int byLaw, int from) {
            law = byLaw;
            heap = from;
            last = 0;
            size = 0;
        }

        private void move(int x) {
            if (x >= 1 && x <= heap && size < MOST) {
                takes[size] = x;
                size++;
                heap -= x;
                last = x;
            }
        }

        private int giveBack() {
            if (size < 1 || size > MOST) {
                return NOTHING;
            }
            size--;
            int x = takes[size];
            heap += x;
            last = size > 0 ? takes[size - 1] : 0;
            return x;
        }

        private void copy(Stove other) {
            law = other.law;
            heap = other.heap;
            last = other.last;
            size = other.size;
            System.arraycopy(other.takes, 0, takes, 0, MOST);
        }
    }

    /** Games of her against a child, by draws of their own. */
    private static final class Evening {
        private int draw = 0;
        private int taken = 0;

        private boolean wonByHer(Law law, int heap, boolean sheBegins) {
            int left = heap;
            int last = 0;
            boolean hers = sheBegins;
            taken = 0;
            for (int i = 0; i <= MOST; i++) {
                long takes = law.takesAt(left, last);
                if (takes == 0) {
                    break;
                }
                int x;
                if (hers) {
                    x = law.herTake(left, last);
                } else {
                    draw = nextDraw(draw);
                    x = drawn(takes, draw);
                }
                left -= x;
                last = x;
                taken++;
                hers = !hers;
            }
            return !hers;
        }
    }

    /**
     * What all ways to play a state come to. Tables are over heaps and what was taken last; only
     * states that can come of the asked one are filled in.
     */
    private static final class Walks {
        private static final int LENGTH = 0;
        private static final int SOONEST = 1;
        private static final int LATEST = 2;
        private static final int SURE = 1000000;
        private static final long MOST_ROWS = 1000000000000000000L;

        private final int[] far = new int[CELLS];
        private final int[] hers = new int[CELLS];
        private final int[] childs = new int[CELLS];
        private final long[] won = new long[CELLS];
        private final long[] lost = new long[CELLS];

        /** How many takes it is to the end. */
        private int measure(Law law, int kind, int heap, int last) {
            if (!isState(heap, last)) {
                return 0;
            }
            for (int h = 0; h < heap; h++) {
                for (int t = 1; t <= heap - h; t++) {
                    far[cell(h, t)] = measured(law, kind, h, t);
                }
            }
            return measured(law, kind, heap, last);
        }

        private int measured(Law law, int kind, int heap, int last) {
            long takes = law.takesAt(heap, last);
            long good = kind == LENGTH ? takes & law.losingFrom(heap) : 0;
            takes = good != 0 ? good : takes;
            boolean hurries = good != 0 || kind == SOONEST;
            int best = 0;
            for (int x = 1; x <= heap; x++) {
                if (has(takes, x)) {
                    int here = far[cell(heap - x, x)] + 1;
                    if (best == 0 || (hurries ? here < best : here > best)) {
                        best = here;
                    }
                }
            }
            return best;
        }

        /** Behind a measure: take k of the least of the soonest rows, the greatest of the latest. */
        private int takeOfRow(Law law, int kind, int heap, int last, int k) {
            int rest = measured(law, kind, heap, last);
            int left = heap;
            int x = last;
            for (int i = 0; i <= k; i++) {
                rest--;
                x = nextOfRow(law.takesAt(left, x), kind, left, rest);
                left -= x;
            }
            return x;
        }

        private int nextOfRow(long takes, int kind, int heap, int rest) {
            int found = 0;
            for (int x = 1; x <= heap; x++) {
                boolean fits = has(takes, x) && far[cell(heap - x, x)] == rest;
                if (fits && (found == 0 || kind == LATEST)) {
                    found = x;
                }
            }
            return found;
        }

        private long rows(Law law, int heap, int last) {
            fillRows(law, heap, last);
            int at = cell(heap, last);
            return Math.min(MOST_ROWS, won[at] + lost[at]);
        }

        private long wonRows(Law law, int heap, int last) {
            fillRows(law, heap, last);
            return won[cell(heap, last)];
        }

        private void fillRows(Law law, int heap, int last) {
            for (int h = 0; h < heap; h++) {
                for (int t = 1; t <= heap - h; t++) {
                    fillRowsAt(law, h, t);
                }
            }
            fillRowsAt(law, heap, last);
        }

        private void fillRowsAt(Law law, int heap, int last) {
            long takes = law.takesAt(heap, last);
            long wins = 0;
            long losses = takes == 0 ? 1 : 0;
            for (int x = 1; x <= heap; x++) {
                if (has(takes, x)) {
                    int behind = cell(heap - x, x);
                    wins = Math.min(MOST_ROWS, wins + lost[behind]);
                    losses = Math.min(MOST_ROWS, losses + won[behind]);
                }
            }
            won[cell(heap, last)] = wins;
            lost[cell(heap, last)] = losses;
        }

        private void fillHopes(Law law, int heap, int last) {
            for (int h = 0; h < heap; h++) {
                for (int t = 1; t <= heap - h; t++) {
                    fillHopesAt(law, h, t);
                }
            }
            fillHopesAt(law, heap, last);
        }

        private void fillHopesAt(Law law, int heap, int last) {
            long takes = law.takesAt(heap, last);
            int best = 0;
            int all = 0;
            for (int x = 1; x <= heap; x++) {
                if (has(takes, x)) {
                    best = Math.max(best, childs[cell(heap - x, x)]);
                    all += hers[cell(heap - x, x)];
                }
            }
            int many = Long.bitCount(takes);
            hers[cell(heap, last)] = best;
            childs[cell(heap, last)] = many == 0 ? SURE : all / many;
        }

        private int hopeOfHers(int heap, int last) {
            return hers[cell(heap, last)];
        }

        private int hopeOfChilds(int heap, int last) {
            return childs[cell(heap, last)];
        }

        private int hopefulTake(Law law, int heap, int last) {
            long takes = law.takesAt(heap, last);
            for (int x = 1; x <= heap; x++) {
                if (has(takes, x) && childs[cell(heap - x, x)] == hers[cell(heap, last)]) {
                    return x;
                }
            }
            return NOTHING;
        }
    }

    /**
     * Games whose rules are not the plain ones. Rows over heaps have for each heap, as bits, what
     * may have been taken last so that who is to take has lost.
     */
    private static final class Rivals {
        private static final int TWO_WIDE = MOST_TWO + 1;
        private static final int MOST_GROWN = 20;

        private final long[] twins = new long[TWO_WIDE * TWO_WIDE];
        private final long[] lost = new long[WIDE];
        private final long[] losing = new long[WIDE];
        private final long[] othersLosing = new long[WIDE];
        private final long[] passing = new long[4 * WIDE];

        /** 100 times the heap, and the least good take there. */
        private int goodOfTwo(Law law, int first, int second, int last) {
            for (int a = 0; a <= first; a++) {
                for (int b = 0; b <= second; b++) {
                    twins[a * TWO_WIDE + b] = lostOfTwo(law, a, b, Math.max(first - a, second - b));
                }
            }
            long good = law.takesAt(first, last) & losingOfTwo(first, second, true);
            if (good != 0) {
                return least(good);
            }
            good = law.takesAt(second, last) & losingOfTwo(first, second, false);
            return good != 0 ? 100 + least(good) : NOTHING;
        }

        private long lostOfTwo(Law law, int a, int b, int mostLast) {
            long fromFirst = losingOfTwo(a, b, true);
            long fromSecond = losingOfTwo(a, b, false);
            long bits = 0;
            for (int x = 1; x <= mostLast; x++) {
                if ((law.takesAt(a, x) & fromFirst) == 0 && (law.takesAt(b, x) & fromSecond) == 0) {
                    bits |= 1L << x;
                }
            }
            return bits;
        }

        private long losingOfTwo(int a, int b, boolean first) {
            long bits = 0;
            for (int x = 1; x <= (first ? a : b); x++) {
                int behind = first ? (a - x) * TWO_WIDE + b : a * TWO_WIDE + b - x;
                bits |= twins[behind] & 1L << x;
            }
            return bits;
        }

        private long goodGrowing(Law law, int heap, int last, int by) {
            Arrays.fill(lost, ~0L);
            for (int taken = MOST_GROWN - 1; taken > 0; taken--) {
                for (int h = 0; h < WIDE; h++) {
                    losing[h] = losingGrowing(h, by);
                }
                for (int h = 0; h < WIDE; h++) {
                    lost[h] = lostGrowing(law, h, by);
                }
            }
            return law.takesAt(heap, last) & losingGrowing(heap, by);
        }

        private long losingGrowing(int heap, int by) {
            long bits = 0;
            for (int x = 1; x <= heap; x++) {
                int left = heap - x == 0 ? 0 : Math.min(MOST, heap - x + by);
                bits |= lost[left] & 1L << x;
            }
            return bits;
        }

        private long lostGrowing(Law law, int heap, int by) {
            long bits = 0;
            // What was taken last was there, so no more can have been.
            int mostLast = Math.min(MOST, MOST + by - heap);
            for (int x = 1; x <= mostLast; x++) {
                if ((law.takesAt(heap, x) & losing[heap]) == 0) {
                    bits |= 1L << x;
                }
            }
            return bits;
        }

        private long goodAgainst(Law own, Law other, int heap, int last) {
            for (int h = 0; h <= heap && h < WIDE; h++) {
                long mine = 0;
                long others = 0;
                for (int x = 1; x <= h; x++) {
                    if ((own.takesAt(h - x, x) & losing[h - x]) == 0) {
                        others |= 1L << x;
                    }
                    if ((other.takesAt(h - x, x) & othersLosing[h - x]) == 0) {
                        mine |= 1L << x;
                    }
                }
                losing[h] = mine;
                othersLosing[h] = others;
            }
            return own.takesAt(heap, last) & losing[heap];
        }

        private boolean onesWin(Law law, int heap, int last) {
            for (int h = 0; h <= heap && h < WIDE; h++) {
                long bits = 0;
                for (int x = 1; x <= h; x++) {
                    if (!oneWins(law, h - x, x)) {
                        bits |= 1L << x;
                    }
                }
                othersLosing[h] = bits;
            }
            return oneWins(law, heap, last);
        }

        private boolean oneWins(Law law, int heap, int last) {
            if (heap < 1 || !has(law.takesAt(heap, last), 1)) {
                return false;
            }
            return (law.takesAt(heap - 1, 1) & othersLosing[heap - 1]) == 0;
        }

        private void fillPasses(Law law, int heap) {
            for (int h = 0; h <= heap && h < WIDE; h++) {
                for (int both = 0; both < 4; both++) {
                    int own = both / 2;
                    int others = both % 2;
                    long bits = 0;
                    for (int x = 1; x <= h; x++) {
                        if (!wonWithPasses(law, h - x, x, own, others)) {
                            bits |= 1L << x;
                        }
                    }
                    passing[passCell(h, own, others)] = bits;
                }
            }
        }

        private long goodWithPasses(Law law, int heap, int last, int own, int others) {
            // Who takes next has the passes the other way round.
            return law.takesAt(heap, last) & passing[passCell(heap, others, own)];
        }

        /** Each pass makes the passes fewer, so this calls itself twice at most. */
        private boolean wonWithPasses(Law law, int heap, int last, int own, int others) {
            if (goodWithPasses(law, heap, last, own, others) != 0) {
                return true;
            }
            return own > 0 && !wonWithPasses(law, heap, last, others, own - 1);
        }

        private static int passCell(int heap, int own, int others) {
            return (2 * own + others) * WIDE + heap;
        }
    }

    /** The lost numbers of a law in their row. */
    private static final class Numbers {
        private static final int MOST_LAG = 5;
        private static final int LEAST_PLACES = 3;
        private static final int MOST_WAYS = 1000000000;
        private static final int FACTORS = 5;

        private final int[] row = new int[MOST];
        private int size = 0;
        /** Of the first numbers of the row, so many of them: how many ways there are to a sum. */
        private final int[][] ways = new int[WIDE][MOST_NUMBER + 1];
        /** The lost numbers of the simple laws; 0: not reckoned yet (1 is always lost). */
        private final long[] simples = new long[FACTORS * FACTORS];
        private final long[] losing = new long[WIDE];

        private void load(long lost) {
            size = 0;
            for (int h = 1; h <= MOST; h++) {
                if (has(lost, h)) {
                    row[size] = h;
                    size++;
                }
            }
        }

        /** The number at a place; 0 behind the last one. */
        private int at(int k) {
            return k >= 0 && k < size && k < MOST ? row[k] : 0;
        }

        private void countWays(int number) {
            for (int i = 0; i <= size; i++) {
                for (int s = 0; s <= number; s++) {
                    if (i == 0) {
                        ways[i][s] = s == 0 ? 1 : 0;
                    } else {
                        ways[i][s] = Math.min(MOST_WAYS, ways[i - 1][s] + waysWith(i - 1, s));
                    }
                }
            }
        }

        /** How many ways to a sum have number k as their greatest. */
        private int waysWith(int k, int s) {
            int rest = s - at(k);
            return rest < 0 ? 0 : ways[Math.max(0, k - 1)][rest];
        }

        private int ways(int number) {
            return ways[size][number];
        }

        private long greatestFirst(int number) {
            long bits = 0;
            int rest = number;
            for (int k = size - 1; k >= 0; k--) {
                if (waysWith(k, rest) > 0) {
                    bits |= 1L << at(k);
                    rest -= at(k);
                    // The one beside it must not come.
                    k--;
                }
            }
            return bits;
        }

        private int leastLag() {
            for (int lag = 0; lag <= MOST_LAG; lag++) {
                if (lagsFrom(lag) != NOTHING) {
                    return lag;
                }
            }
            return NOTHING;
        }

        /** From which place on the lag holds. */
        private int lagsFrom(int lag) {
            int from = size;
            for (int i = size - 1; i > lag; i--) {
                if (at(i) != at(i - 1) + at(i - 1 - lag)) {
                    break;
                }
                from = i;
            }
            return size - from >= LEAST_PLACES ? from : NOTHING;
        }

        private int simpleOnes(long lost) {
            int many = 0;
            for (int i = 0; i < simples.length; i++) {
                many += simpleAt(i) == lost ? 1 : 0;
            }
            return many;
        }

        private int firstSimple(long lost) {
            for (int i = 0; i < simples.length; i++) {
                if (simpleAt(i) == lost) {
                    return i / FACTORS * 10 + i % FACTORS;
                }
            }
            return NOTHING;
        }

        private long simpleAt(int i) {
            if (i < 0 || i >= simples.length) {
                return 0;
            }
            if (simples[i] == 0) {
                simples[i] = lostOfSimple(i / FACTORS, i % FACTORS);
            }
            return simples[i];
        }

        private long lostOfSimple(int times, int more) {
            long lost = 0;
            for (int h = 0; h <= MOST; h++) {
                long bits = 0;
                for (int x = 1; x <= h; x++) {
                    int most = Math.min(h - x, times * x + more);
                    if ((losing[h - x] & upTo(most)) == 0) {
                        bits |= 1L << x;
                    }
                }
                losing[h] = bits;
                if (h > 0 && (bits & upTo(h - 1)) == 0) {
                    lost |= 1L << h;
                }
            }
            return lost;
        }

        /** The takes 1 to a most one (0 to 40). */
        private static long upTo(int most) {
            return (1L << most + 1) - 2;
        }
    }
}
