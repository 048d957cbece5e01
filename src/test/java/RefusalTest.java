import java.util.ArrayList;
import java.util.Arrays;
import java.util.List;

/**
 * Every argument of every call, at both ends of what the document lets and just beyond them: inside
 * the call answers, outside it is refused, and a refused call changes nothing.
 */
public final class RefusalTest extends Bench {
    private static final int LEAST = Integer.MIN_VALUE;
    private static final int MOST = Integer.MAX_VALUE;
    /** Laws 0, 1 and 3 are told, games 0 and 8. */
    private static final Argument LAW = new Argument(new int[] {0, 1, 3}, -1, 2, 4, LEAST, MOST);
    private static final Argument ANY_LAW = new Argument(new int[] {0, 2, 3}, -1, 4, LEAST, MOST);
    private static final Argument GAME = new Argument(new int[] {0, 8}, -1, 1, 7, 9, LEAST, MOST);
    private static final Argument ANY_GAME = new Argument(new int[] {0, 4, 8}, -1, 9, LEAST, MOST);
    private static final Argument HEAP = to(40);
    private static final Argument LAST = to(40);
    private static final Argument ONE_OF_TWO = to(1);
    /** Of a row: how many, or one of forty takes. */
    private static final Argument ROW = new Argument(new int[] {0, 39, 100}, -1, 40, 99, 101, LEAST, MOST);

    private RefusalTest() {
    }

    /** A call by its arguments. */
    private interface Call {
        long on(DoubleHeap x, int[] a);
    }

    private static final class Argument {
        final int[] inside;
        final int[] outside;

        Argument(int[] inside, int... outside) {
            this.inside = inside;
            this.outside = outside;
        }
    }

    /** From 0 to the highest one. */
    private static Argument to(int high) {
        return between(0, high);
    }

    private static Argument between(int low, int high) {
        return new Argument(new int[] {low, high}, low - 1, high + 1, LEAST, MOST);
    }

    public static void main(String[] args) {
        readers();
        states();
        others();
        played();
        stove();
        faults();
        untold();
        end();
    }

    private static void readers() {
        // The tape has 200 bytes.
        sweep("Promise 3", "NONE: no such ones, it has not so many (the tape stays)",
                "law", -1, (x, a) -> x.law(a[0], a[1]), ANY_LAW, between(1, 160));
        sweep("Promise 4", "NONE: as above", "game", -1, (x, a) -> x.game(a[0], a[1]), ANY_GAME, between(1, 130));
        sweep("Promise 36", "-2: no such ones, it has not so many (the tape stays)",
                "check", -2, (x, a) -> x.check(a[0], a[1]), LAW, to(40));
        sweep("Promise 37", "NONE for others", "count", -1, (x, a) -> x.count(a[0]),
                new Argument(new int[] {0, 7, 10, 11, 13, 20, 28}, -1, 8, 9, 12, 14, 19, 21, 27, 29, LEAST, MOST));
    }

    private static void states() {
        sweep("Promise 5", "NONE: no such ones",
                "state", -1, (x, a) -> x.state(a[0], a[1], a[2], a[3]), LAW, HEAP, LAST, to(6));
        sweep("Promise 6", "-1: no such ones",
                "takes", -1, (x, a) -> x.takes(a[0], a[1], a[2], a[3]), LAW, HEAP, LAST, to(3));
        sweep("Promise 7", "-1: no such one", "lost", -1, (x, a) -> x.lost(a[0]), LAW);
        sweep("Promise 8", "NONE: no such ones", "lostAt", -1, (x, a) -> x.lostAt(a[0], a[1]), LAW,
                new Argument(new int[] {0, 39, 40, MOST}, -1, LEAST));
        sweep("Promise 9", "NONE: no such ones",
                "ends", -1, (x, a) -> x.ends(a[0], a[1], a[2], a[3]), LAW, HEAP, LAST, ROW);
        sweep("Promise 20", "NONE: no such ones",
                "longest", -1, (x, a) -> x.longest(a[0], a[1], a[2], a[3]), LAW, HEAP, LAST, ROW);
        sweep("Promise 10", "NONE: no such ones",
                "sums", -1, (x, a) -> x.sums(a[0], a[1], a[2]), LAW, to(200), ONE_OF_TWO);
        sweep("Promise 11", "-1: no such ones", "sum", -1, (x, a) -> x.sum(a[0], a[1]), LAW, to(200));
        sweep("Promise 18", "NONE: no such ones", "pattern", -1, (x, a) -> x.pattern(a[0], a[1]), LAW, to(2));
        sweep("Promise 19", "NONE: no such ones", "simple", -1, (x, a) -> x.simple(a[0], a[1]), LAW, ONE_OF_TWO);
        sweep("Promise 21", "NONE: no such ones", "unlike", -1, (x, a) -> x.unlike(a[0], a[1], a[2]), LAW, LAW, to(2));
    }

    private static void others() {
        sweep("Promise 12", "NONE: no such ones", "two", -1, (x, a) -> x.two(a[0], a[1], a[2], a[3], a[4]),
                LAW, to(20), to(20), LAST, ONE_OF_TWO);
        sweep("Promise 13", "NONE: no such ones", "growing", -1, (x, a) -> x.growing(a[0], a[1], a[2], a[3], a[4]),
                LAW, HEAP, LAST, to(3), ONE_OF_TWO);
        sweep("Promise 14", "NONE: no such ones", "each", -1, (x, a) -> x.each(a[0], a[1], a[2], a[3], a[4]),
                LAW, LAW, HEAP, LAST, ONE_OF_TWO);
        sweep("Promise 15", "NONE: no such ones", "ones", -1, (x, a) -> x.ones(a[0], a[1], a[2]), LAW, HEAP, LAST);
        sweep("Promise 16", "NONE: no such ones", "passes", -1, (x, a) -> x.passes(a[0], a[1], a[2], a[3], a[4], a[5]),
                LAW, HEAP, LAST, ONE_OF_TWO, ONE_OF_TWO, ONE_OF_TWO);
        sweep("Promise 17", "NONE: no such ones", "hope", -1, (x, a) -> x.hope(a[0], a[1], a[2], a[3], a[4]),
                LAW, HEAP, LAST, ONE_OF_TWO, ONE_OF_TWO);
    }

    private static void played() {
        sweep("Promise 22", "NONE: no such ones",
                "judged", -1, (x, a) -> x.judged(a[0], a[1], a[2], a[3]), GAME, LAW, ONE_OF_TWO, to(3));
        sweep("Promise 23", "NONE: no such ones", "fromWhen", -1, (x, a) -> x.fromWhen(a[0], a[1]), LAW, ONE_OF_TWO);
        sweep("Promise 24", "NONE: no such one", "thought", -1, (x, a) -> x.thought(a[0]), ONE_OF_TWO);
        sweep("Promise 25", "-1: no such ones",
                "chance", -1, (x, a) -> x.chance(a[0], a[1], a[2], a[3]), GAME, LAW, ONE_OF_TWO, ONE_OF_TWO);
    }

    private static void stove() {
        sweep("Promise 26", "false: no such ones", "stove", 0, (x, a) -> x.stove(a[0], a[1]) ? 1 : 0, LAW, HEAP);
        // There are 34, 2 were taken last: twice of it at most.
        sweep("Promise 27", "NONE: that is no TAKE",
                "take", -1, (x, a) -> x.take(a[0]), new Argument(new int[] {1, 4}, -1, 0, 5, 34, 65, 66, LEAST, MOST));
        sweep("Promise 31", "NONE: no such ones",
                "against", -1, (x, a) -> x.against(a[0], a[1], a[2], a[3]), LAW, HEAP, ONE_OF_TWO, ONE_OF_TWO);
        sweep("Promise 32", "NONE: no such ones", "evenings", -1, (x, a) -> x.evenings(a[0], a[1], a[2], a[3]),
                between(1, 30), LAW, HEAP, ONE_OF_TWO);
        sweep("Promise 33", "false: no such number", "seed", 0, (x, a) -> x.seed(a[0]) ? 1 : 0, to(65535));
    }

    /** In each argument what is inside, then what is outside, with the others inside. */
    private static void sweep(String part, String words, String name, long refused, Call call,
            Argument... arguments) {
        sentence(part, words);
        int[] a = new int[arguments.length];
        for (int ends = 0; ends < 2; ends++) {
            for (int i = 0; i < a.length; i++) {
                a[i] = ends == 0 ? arguments[i].inside[0] : arguments[i].inside[arguments[i].inside.length - 1];
            }
            for (int i = 0; i < a.length; i++) {
                int kept = a[i];
                for (int value : arguments[i].inside) {
                    a[i] = value;
                    due(name + Arrays.toString(a) + " is not refused", call.on(told(), a) != refused, true);
                }
                for (int value : arguments[i].outside) {
                    a[i] = value;
                    DoubleHeap x = told();
                    due(name + Arrays.toString(a), call.on(x, a), refused);
                    same(name + Arrays.toString(a), x, told());
                }
                a[i] = kept;
            }
        }
    }

    /** An object in the midst of all: three laws, two games, 200 bytes, a game that goes on, one that is kept. */
    private static DoubleHeap told() {
        DoubleHeap x = with(DOUBLE, THREE);
        law(x, 3, NO_TAKE);
        game(x, 0, "7:2,3,2");
        game(x, 8, "9:1,4");
        x.stove(1, 30);
        x.take(3);
        x.child();
        x.keep();
        x.stove(0, 40);
        x.take(4);
        x.take(2);
        int[] bytes = new int[200];
        for (int i = 0; i < bytes.length; i++) {
            bytes[i] = i + 1;
        }
        feed(x, bytes);
        return x;
    }

    /** Two objects that have the same behind them answer all that comes alike. */
    private static void same(String what, DoubleHeap x, DoubleHeap y) {
        List<Long> got = trace(x);
        List<Long> want = trace(y);
        for (int i = 0; i < want.size(); i++) {
            due(what + " changes nothing, answer " + i + " behind it", got.get(i), want.get(i));
        }
    }

    private static List<Long> trace(DoubleHeap x) {
        List<Long> all = new ArrayList<>();
        counts(x, all);
        for (int l = 0; l < 4; l++) {
            all.add(x.lost(l));
            all.add(x.takes(l, 30, 2, 0));
            for (int g = 0; g < 9; g++) {
                all.add((long) x.judged(g, l, 0, 2));
            }
        }
        all.add((long) x.she());
        all.add((long) x.child());
        all.add((long) x.back());
        all.add((long) x.back());
        all.add((long) x.back());
        counts(x, all);
        all.add(x.undo() ? 1L : 0L);
        counts(x, all);
        all.add((long) x.back());
        all.add((long) x.back());
        all.add((long) x.back());
        // By law 3 all heaps are lost, so the tape is right if it still begins with 1 to 40.
        all.add((long) x.feed(0, 0, 0, 0, 0));
        all.add((long) x.check(3, 40));
        counts(x, all);
        return all;
    }

    private static void counts(DoubleHeap x, List<Long> all) {
        for (int what = 0; what < 29; what++) {
            all.add((long) x.count(what));
        }
    }

    /** A fault empties the tape, and changes nothing else. */
    private static void faults() {
        String[] laws = {"?", "m9(1=1);", "m9(1=1);f(x=1);m123456(1=1)", "f(1=1);f(((((((1=1)))))))"};
        String[] games = {"?", "41:1", "9:1,2,", "9:1,9", "40:" + ones(41)};
        at("Promise 3");
        for (String text : laws) {
            for (int l = 0; l < 4; l++) {
                DoubleHeap x = emptied();
                due("a fault in " + text, law(x, l, text) <= -1000, true);
                same("a fault in " + text, x, emptied());
            }
        }
        at("Promise 4");
        for (String text : games) {
            for (int g = 0; g < 9; g += 4) {
                DoubleHeap x = emptied();
                due("a fault in " + text, game(x, g, text) <= -1000, true);
                same("a fault in " + text, x, emptied());
            }
        }
        at("Promise 2");
        DoubleHeap x = told();
        DoubleHeap y = told();
        for (int i = 0; i < 3; i++) {
            x.feed(1, 2, 3, 4, 5);
            y.feed(1, 2, 3, 4, 5);
        }
        due("a full tape", x.feed(6, 7, 8, 9, 10), -1);
        same("a full tape", x, y);
    }

    private static DoubleHeap emptied() {
        DoubleHeap x = told();
        x.check(0, 0);
        return x;
    }

    /** What is refused of a new object, too, changes nothing. */
    private static void untold() {
        at("Promises 27 to 30, 35");
        DoubleHeap x = new DoubleHeap();
        due("take", x.take(1), -1);
        due("she", x.she(), -1);
        due("child", x.child(), -1);
        due("back", x.back(), -2);
        due("undo", x.undo(), false);
        same("what is refused of a new object", x, new DoubleHeap());
    }
}
