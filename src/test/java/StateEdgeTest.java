/**
 * Each sentence on states, numbers and the other ways to play that names a boundary case, with the
 * calls just inside the boundary and just outside it.
 */
public final class StateEdgeTest extends Bench {
    private static final String TERMS = "Terms";
    /** Of 5 one may take 1, and it is over, or 2, and it goes on. */
    private static final String LEAST_IS_SOONEST = "m2(n=5);m0(n=4);m1(n=3);m2(n=2);m1(n=1)";
    /** Of each against another: 1 won, 2 lost, 0 not known yet. */
    private static final int[][][] KNOWN = new int[2][41][41];

    public static void main(String[] args) {
        statesFromTo();
        takesOneToMost();
        noTakeIsLost();
        goodTakes();
        lastAboveAll();
        stateNone();
        shyest();
        takesWhats();
        lostNumbers();
        lostAtPlaces();
        lengths();
        endsRows();
        longestRows();
        allRows();
        sumNumbers();
        sumUnlike();
        sumNone();
        twoHeaps();
        twoNone();
        growingBy();
        growingSomethingLeft();
        growingFortyAtMost();
        growingTwentyTakes();
        eachByOwn();
        onesOrLost();
        passesNoneOrOne();
        passAlone();
        hopeEnds();
        hopeRounds();
        hopeTake();
        lags();
        threePlaces();
        fromPlace();
        simples();
        simpleFirst();
        unlikeStates();
        unlikeWinners();
        end();
    }

    // ---- states ----

    private static void statesFromTo() {
        sentence(TERMS, "A STATE: a HEAP (0 to 40), what was taken LAST (0 to 40)");
        DoubleHeap x = with(ALL);
        int[] edges = {0, 40};
        for (int heap : edges) {
            for (int last : edges) {
                due("takes of " + heap + " behind " + last, x.state(0, heap, last, 4), heap);
            }
        }
        int[] outside = {-1, 41, Integer.MIN_VALUE, Integer.MAX_VALUE};
        for (int none : outside) {
            due("heap " + none, x.state(0, none, 0, 4), -1);
            due("last " + none, x.state(0, 0, none, 4), -1);
        }
    }

    private static void takesOneToMost() {
        sentence(TERMS, "TAKES by a LAW: 1 to m, no more than the HEAP, none that is forbidden");
        DoubleHeap x = with(THREE, "m40(1=1)", "m3(1=1);f(x=3)", "m0(1=1)");
        due("nothing is there", x.takes(0, 0, 0, 0), 0);
        due("less than m", x.takes(0, 2, 0, 0), bits(1, 2));
        due("as many as m", x.takes(0, 3, 0, 0), bits(1, 2, 3));
        due("more than m", x.takes(0, 4, 0, 0), bits(1, 2, 3));
        due("m is 40", x.takes(1, 40, 0, 0), ALL_HEAPS);
        due("m is 40, 39 are there", x.takes(1, 39, 0, 0), ALL_HEAPS ^ bits(40));
        due("m is forbidden", x.takes(2, 9, 0, 0), bits(1, 2));
        due("m is 0", x.takes(3, 40, 0, 0), 0);
    }

    private static void noTakeIsLost() {
        sentence(TERMS, "who has no TAKE has lost (so who takes the last has won)");
        DoubleHeap x = with(ALL, NO_TAKE, "m1(n>1)");
        due("nothing is there", x.state(0, 0, 0, 0), 0);
        due("the last is taken", x.state(0, 1, 0, 0), 1);
        due("the last is taken", x.state(0, 40, 40, 1), 40);
        due("something is there, but no take", x.state(1, 40, 0, 0), 0);
        due("the last can't be taken", x.state(2, 1, 0, 0), 0);
        due("so who leaves it has won", x.state(2, 2, 0, 0), 1);
        due("and who leaves two has lost", x.state(2, 3, 0, 0), 0);
    }

    private static void goodTakes() {
        sentence(TERMS, "A STATE is WON for who is to take if there is a GOOD TAKE: one behind which the other has lost, whatever that one takes");
        DoubleHeap x = with(DOUBLE, THREE);
        // Behind a take of 2 the other may take 4, behind a take of 1 but 2.
        due("of 7: 2 leaves 5", x.takes(0, 7, 0, 1), bits(2));
        due("of 4: 1 leaves 3, of which 2 are taken at most", x.takes(0, 4, 0, 1), bits(1));
        due("of 5: none", x.takes(0, 5, 0, 1), 0);
        due("of 4 behind 2: all of them, and 1", x.takes(0, 4, 2, 1), bits(1, 4));
        due("of 4 behind 1: 1 alone", x.takes(0, 4, 1, 1), bits(1));
        due("threes: 4 is lost", x.state(1, 4, 0, 0), 0);
        due("threes: 5 is won", x.state(1, 5, 0, 0), 1);
        due("threes: 39 is won", x.state(1, 39, 0, 0), 1);
        due("threes: 40 is lost", x.state(1, 40, 0, 0), 0);
        due("forbidden, though it would be good", with("m3(1=1);f(x=3&n=7)").state(0, 7, 0, 0), 0);
    }

    private static void lastAboveAll() {
        sentence(TERMS, "(LAST may be above all that was there.)");
        DoubleHeap x = with("mt-39(1=1)");
        due("40 of 40", x.state(0, 40, 39, 0), 0);
        due("40 of 40", x.state(0, 40, 40, 0), 1);
        due("40 of 1", x.state(0, 1, 40, 1), 1);
        due("40 of none", x.state(0, 0, 40, 1), -2);
        due("two heaps", with("mt-39(1=1)").two(0, 20, 20, 40, 1), 1);
    }

    private static void stateNone() {
        sentence("Promise 5", "(1, 2, 6: -2: none)");
        DoubleHeap x = with(THREE);
        due("least", x.state(0, 3, 0, 1), 3);
        due("greatest", x.state(0, 3, 0, 2), 3);
        due("shy", x.state(0, 3, 0, 6), 3);
        int[] whats = {1, 2, 6};
        for (int what : whats) {
            due("no good take, " + what, x.state(0, 4, 0, what), -2);
            due("nothing is there, " + what, x.state(0, 0, 0, what), -2);
        }
        due("how many good ones", x.state(0, 4, 0, 3), 0);
        due("how many", x.state(0, 4, 0, 4), 3);
        due("how many of none", x.state(0, 0, 0, 4), 0);
        due("least and greatest of two", with(ODD).state(0, 3, 0, 1), 1);
        due("least and greatest of two", with(ODD).state(0, 3, 0, 2), 3);
        due("all forty", with("m40(1=1);f(x<40)").state(0, 40, 0, 1), 40);
        due("what 7", x.state(0, 3, 0, 7), -1);
        due("what -1", x.state(0, 3, 0, -1), -1);
    }

    private static void shyest() {
        sentence(TERMS, "SHY: the GOOD TAKE by a LAW that by most of the other told LAWS is none (no GOOD TAKE there); of like ones the least");
        // Of 3 by ODD 1 and 3 are good.
        DoubleHeap x = with(ODD);
        due("no other law: the least", x.state(0, 3, 0, 6), 1);
        law(x, 3, "m1(n=3)");
        due("1 is good by law 3", x.state(0, 3, 0, 6), 3);
        law(x, 1, "m3(1=1);f(x<3)");
        due("each is good by one", x.state(0, 3, 0, 6), 1);
        law(x, 2, "m3(1=1);f(x<3)");
        due("3 is good by two, 1 by one", x.state(0, 3, 0, 6), 1);
        law(x, 1, "m1(n=3)");
        due("1 is good by two, 3 by one", x.state(0, 3, 0, 6), 3);
        law(x, 2, "m1(n=3)");
        due("1 is good by three", x.state(0, 3, 0, 6), 3);
        due("1 is the only good one, by the others too", x.state(3, 3, 0, 6), 1);
        law(x, 2, NO_TAKE);
        due("a take, but no good one there", x.state(0, 3, 0, 6), 3);
        DoubleHeap y = with(ODD, "m1(1=1);f(n=2&1=0)", "m2(n=3)");
        due("by law 2 1 is a take, but 2 is good as well: both show 1", y.state(0, 3, 0, 6), 3);
        DoubleHeap z = with("m1(n=3)", ODD);
        due("law 1 asks law 0", z.state(1, 3, 0, 6), 3);
        // The law itself does not count.
        DoubleHeap w = with("m2(1=1)", "m2(1=1);f(x=1&n=4)");
        due("of 4: 1 is good by law 0 alone", w.state(0, 4, 0, 6), 1);
    }

    private static void takesWhats() {
        sentence("Promise 6", "what 0 TAKES (bits), 1 GOOD ones (bits), 2 ROWS, 3 those won; -1: no such ones");
        DoubleHeap x = with(THREE);
        due("takes", x.takes(0, 3, 0, 0), bits(1, 2, 3));
        due("good ones", x.takes(0, 3, 0, 1), bits(3));
        due("rows: 111 12 21 3", x.takes(0, 3, 0, 2), 4);
        due("rows that are won: 111 3", x.takes(0, 3, 0, 3), 2);
        due("what 4", x.takes(0, 3, 0, 4), -1);
        due("what -1", x.takes(0, 3, 0, -1), -1);
    }

    // ---- lost numbers ----

    private static void lostNumbers() {
        sentence(TERMS, "LOST NUMBERS: HEAPS 1 to 40 at which who begins (LAST 0) has lost (bits)");
        DoubleHeap x = with(NO_TAKE, ALL, losingAt(1), losingAt(40));
        due("all, but not 0", x.lost(0), ALL_HEAPS);
        due("none", x.lost(1), 0);
        due("1", x.lost(2), bits(1));
        due("40", x.lost(3), bits(40));
        DoubleHeap y = with("m0(t=0);mn(1=1)", "mn(t=0)");
        due("by last 0 all are lost", y.lost(0), ALL_HEAPS);
        due("by last 1 none", y.state(0, 5, 1, 0), 1);
        due("by last 0 none is lost", y.lost(1), 0);
        due("by last 1 all", y.state(1, 5, 1, 0), 0);
    }

    private static void lostAtPlaces() {
        sentence("Promise 8", "LOST NUMBER k (0 on) of a told LAW; -2: not so many; NONE: no such ones");
        DoubleHeap x = with(NO_TAKE, ALL, losingAt(7, 40));
        due("the first of forty", x.lostAt(0, 0), 1);
        due("the last of forty", x.lostAt(0, 39), 40);
        due("not so many", x.lostAt(0, 40), -2);
        due("not so many", x.lostAt(0, 41), -2);
        due("not so many", x.lostAt(0, Integer.MAX_VALUE), -2);
        due("there is none", x.lostAt(1, 0), -2);
        due("the first of two", x.lostAt(2, 0), 7);
        due("the second of two", x.lostAt(2, 1), 40);
        due("not three", x.lostAt(2, 2), -2);
        due("k -1", x.lostAt(0, -1), -1);
        due("k far below", x.lostAt(0, Integer.MIN_VALUE), -1);
        due("not told", x.lostAt(3, 0), -1);
    }

    // ---- how long, how soon, how many ----

    private static void lengths() {
        sentence(TERMS, "LENGTH: how many TAKES till the end if who wins ends it as soon, who loses as late as can be");
        DoubleHeap x = with(ONE, ALL, THREE, NO_TAKE);
        due("nothing is there", x.state(0, 0, 0, 5), 0);
        due("no take", x.state(3, 40, 0, 5), 0);
        due("forty takes", x.state(0, 40, 0, 5), 40);
        due("one take", x.state(1, 40, 0, 5), 1);
        due("won: 3 at once", x.state(2, 3, 0, 5), 1);
        due("lost: 1 to 3, 3", x.state(2, 4, 0, 5), 2);
        due("won: 1, then 1 to 3, then the rest", x.state(2, 5, 0, 5), 3);
        // Good are 1 (then 1 takes 3 more) and 3 at once; lost takes are not asked.
        due("the soonest of the good ones", with("m3(1=1);f(n=2&x=2)").state(0, 3, 0, 5), 1);
        // 6 is lost: 1 leaves 5 (one take: all), 2 leaves 4 (three takes: 1, 1, 2): as late as can be.
        DoubleHeap y = with("m2(n=6);m5(n=5);m1(n=4);m1(n=3);m2(n=2);m1(n=1)");
        due("2 is won at once", y.state(0, 2, 0, 5), 1);
        due("3 is lost: 1, then 2", y.state(0, 3, 0, 5), 2);
        due("4 is won: 1, and 3 is lost", y.state(0, 4, 0, 5), 3);
        due("5 is won at once", y.state(0, 5, 0, 5), 1);
        due("6 is lost: by 2 it lasts longer", y.state(0, 6, 0, 5), 4);
        // Of 5 both 1 and 2 are good: behind 1 it is over, behind 2 it goes on with 1 and 2.
        DoubleHeap z = with(LEAST_IS_SOONEST);
        due("two good ones", z.takes(0, 5, 0, 1), bits(1, 2));
        due("the least good one ends it sooner", z.state(0, 5, 0, 5), 1);
    }

    private static void endsRows() {
        sentence("Promise 9", "what 100 how many TAKES, else TAKE what (0 to 39) of the least row; -4: there are not so many; NONE: no such ones");
        DoubleHeap x = with(ONE, THREE, NO_TAKE);
        due("forty", x.ends(0, 40, 0, 100), 40);
        due("take 0", x.ends(0, 40, 0, 0), 1);
        due("take 39", x.ends(0, 40, 0, 39), 1);
        due("39 have no take 39", x.ends(0, 39, 0, 39), -4);
        due("39 have a take 38", x.ends(0, 39, 0, 38), 1);
        int[] nones = {-1, 40, 99, 101, Integer.MIN_VALUE, Integer.MAX_VALUE};
        for (int what : nones) {
            due("what " + what, x.ends(0, 40, 0, what), -1);
        }
        due("over at once", x.ends(2, 40, 0, 100), 0);
        due("over at once", x.ends(2, 40, 0, 0), -4);
        due("nothing is there", x.ends(0, 0, 40, 100), 0);
        due("nothing is there", x.ends(0, 0, 40, 0), -4);
        due("nothing is there", x.ends(0, 0, 40, 39), -4);
        sentence(TERMS, "ENDS: the fewest TAKES by which a STATE can be over at all (nobody has a TAKE any more), whoever wins; the least row of so many");
        due("7 by threes", x.ends(1, 7, 0, 100), 3);
        row("1 3 3", new int[] {x.ends(1, 7, 0, 0), x.ends(1, 7, 0, 1), x.ends(1, 7, 0, 2)}, 1, 3, 3);
        due("no fourth", x.ends(1, 7, 0, 3), -4);
        row("8: 2 3 3", new int[] {x.ends(1, 8, 0, 0), x.ends(1, 8, 0, 1), x.ends(1, 8, 0, 2)}, 2, 3, 3);
        due("9 by threes is lost in 3 for who begins or not", x.ends(1, 9, 0, 100), 3);
        due("over with some left", with("m2(n>5)").ends(0, 7, 0, 100), 1);
        due("over with some left", with("m2(n>5)").ends(0, 7, 0, 0), 2);
        DoubleHeap y = with(LEAST_IS_SOONEST);
        due("over behind 1, not behind 2", y.ends(0, 5, 0, 100), 1);
        due("over behind 1, not behind 2", y.ends(0, 5, 0, 0), 1);
        due("2 1 1 1 lasts longest", y.longest(0, 5, 0, 100), 4);
    }

    private static void row(String what, int[] got, int... want) {
        for (int i = 0; i < want.length; i++) {
            due(what + ", take " + i, got[i], want[i]);
        }
    }

    private static void longestRows() {
        sentence("Promise 20", "what 100 how many TAKES, else TAKE what (0 to 39) of the greatest row; -4: there are not so many; NONE: no such ones");
        DoubleHeap x = with(ONE, THREE, NO_TAKE);
        due("forty", x.longest(1, 40, 0, 100), 40);
        due("take 39", x.longest(1, 40, 0, 39), 1);
        due("39 have no take 39", x.longest(1, 39, 0, 39), -4);
        due("39 have a take 38", x.longest(1, 39, 0, 38), 1);
        int[] nones = {-1, 40, 99, 101, Integer.MIN_VALUE, Integer.MAX_VALUE};
        for (int what : nones) {
            due("what " + what, x.longest(1, 40, 0, what), -1);
        }
        due("over at once", x.longest(2, 40, 0, 100), 0);
        due("over at once", x.longest(2, 40, 0, 0), -4);
        due("nothing is there", x.longest(1, 0, 40, 100), 0);
        due("nothing is there", x.longest(1, 0, 40, 0), -4);
        sentence(TERMS, "LONGEST: the most TAKES that a STATE can last, whoever wins; the greatest row of so many (each TAKE as great as can be, the first ahead of the others)");
        // Two or three each: 7 is 2 2 2 with one left, 3 2 2, 2 3 2, 2 2 3.
        DoubleHeap y = with("m3(1=1);f(x=1)");
        due("three takes", y.longest(0, 7, 0, 100), 3);
        row("3 2 2", new int[] {y.longest(0, 7, 0, 0), y.longest(0, 7, 0, 1), y.longest(0, 7, 0, 2)}, 3, 2, 2);
        due("8 has four", y.longest(0, 8, 0, 100), 4);
        due("8 has four", y.longest(0, 8, 0, 0), 2);
        due("of 1 nothing can be taken", y.longest(0, 1, 0, 100), 0);
        due("the least of these rows", y.ends(0, 7, 0, 100), 2);
        row("3 3", new int[] {y.ends(0, 7, 0, 0), y.ends(0, 7, 0, 1)}, 3, 3);
    }

    private static void allRows() {
        sentence(TERMS, "ROWS: how many ways there are to play a STATE to its end (1000000000000000000 at most); how many of them are won by who is to take now (likewise)");
        DoubleHeap x = with(ALL, NO_TAKE, ODD);
        due("nothing is there: one way", x.takes(0, 0, 0, 2), 1);
        due("it is lost", x.takes(0, 0, 0, 3), 0);
        due("no take: one way", x.takes(1, 40, 0, 2), 1);
        due("it is lost", x.takes(1, 40, 0, 3), 0);
        due("one is there", x.takes(0, 1, 0, 2), 1);
        due("it is won", x.takes(0, 1, 0, 3), 1);
        due("those that are won, asked first", with(ALL).takes(0, 40, 0, 3), 1L << 38);
        // No law has more: 2 to the 39th, so the bound is never met.
        due("the most of all", x.takes(0, 40, 0, 2), 1L << 39);
        due("half of them", x.takes(0, 40, 0, 3), 1L << 38);
        due("all of them", x.takes(2, 39, 0, 2), 63245986);
        due("all of them", x.takes(2, 39, 0, 3), 63245986);
        due("none of them", x.takes(2, 40, 0, 2), 102334155);
        due("none of them", x.takes(2, 40, 0, 3), 0);
    }

    // ---- sums ----

    private static void sumNumbers() {
        sentence(TERMS, "SUMS: a number (0 to 200) as a sum of unlike LOST NUMBERS");
        DoubleHeap x = with(NO_TAKE, ALL, ONE);
        due("0: nothing at all", x.sums(0, 0, 0), 1);
        due("0: no numbers", x.sums(0, 0, 1), 0);
        due("0: no bits", x.sum(0, 0), 0);
        due("0 without lost numbers", x.sums(1, 0, 0), 1);
        due("0 without lost numbers", x.sum(1, 0), 0);
        due("1", x.sums(0, 1, 0), 1);
        due("1", x.sum(0, 1), bits(1));
        due("200", x.sums(0, 200, 1), 6);
        due("200", x.sum(0, 200), bits(40, 38, 36, 34, 32, 20));
        due("200 of even ones", x.sum(2, 200), bits(40, 36, 32, 28, 24, 20, 16, 4));
        due("199 of even ones", x.sums(2, 199, 0), 0);
        int[] nones = {-1, 201, Integer.MIN_VALUE, Integer.MAX_VALUE};
        for (int number : nones) {
            due("ways of " + number, x.sums(0, number, 0), -1);
            due("numbers of " + number, x.sums(0, number, 1), -1);
            due("bits of " + number, x.sum(0, number), -1);
        }
        sentence("Promise 10", "what 0 how many ways (1000000000 at most), 1 how many numbers the greatest first has (-2: none); NONE: no such ones");
        due("what 2", x.sums(0, 1, 2), -1);
        due("what -1", x.sums(0, 1, -1), -1);
        // 1 to 40 have but 267914296 rows without neighbours, so the bound is never met.
        due("the most ways", x.sums(0, 200, 0), 1824536);
        due("one less", x.sums(0, 199, 0), 1797833);
    }

    private static void sumUnlike() {
        sentence(TERMS, "no two of which stand beside each other in the row of these");
        DoubleHeap x = with(losingAt(1), losingAt(3, 9), losingAt(3, 4, 5), losingAt(1, 2, 4, 8));
        due("1", x.sums(0, 1, 0), 1);
        due("1 and 1 are alike", x.sums(0, 2, 0), 0);
        due("3 and 9 stand beside each other", x.sums(1, 12, 0), 0);
        due("9", x.sums(1, 9, 0), 1);
        due("3 and 5 do not", x.sums(2, 8, 0), 1);
        due("3 and 5 do not", x.sum(2, 8), bits(3, 5));
        due("3 and 4 do", x.sums(2, 7, 0), 0);
        due("4 and 5 do", x.sums(2, 9, 0), 0);
        due("1 and 8", x.sum(3, 9), bits(1, 8));
        due("2 and 8", x.sum(3, 10), bits(2, 8));
        due("4 and 8", x.sum(3, 12), -2);
        sentence(TERMS, "the greatest first: the way with the greatest first number (then the greatest second one, and so on): its numbers (bits; -2: none)");
        DoubleHeap y = with(losingAt(2, 3, 5, 7, 8), losingAt(1, 4, 5, 7, 9, 12, 20), losingAt(5, 6, 11, 13, 14));
        due("8 and 2, 7 and 3", y.sums(0, 10, 0), 2);
        due("8 and 2 come first", y.sum(0, 10), bits(8, 2));
        due("two numbers", y.sums(0, 10, 1), 2);
        // 20 and 9 and 4, 20 and 9 ... the second: 12 stands beside 20.
        due("20 and 9 and 4", y.sum(1, 33), bits(20, 9, 4));
        // 13 stands beside 11: 13 and 6 are 19, 14 and 5 as well.
        due("14 and 5 ahead of 13 and 6", y.sum(2, 19), bits(14, 5));
        due("11 itself, not 6 and 5", y.sum(2, 11), bits(11));
    }

    private static void sumNone() {
        sentence("Promise 11", "the greatest first (bits); -2: none; -1: no such ones");
        DoubleHeap x = with(DOUBLE, ALL);
        due("34 13 5 2 is the most", x.sum(0, 54), bits(34, 13, 5, 2));
        due("four numbers", x.sums(0, 54, 1), 4);
        due("one way", x.sums(0, 54, 0), 1);
        due("none", x.sum(0, 55), -2);
        due("none", x.sums(0, 55, 1), -2);
        due("no way", x.sums(0, 55, 0), 0);
        due("no lost numbers", x.sum(1, 1), -2);
        due("no lost numbers", x.sums(1, 200, 1), -2);
        due("not told", x.sum(2, 1), -1);
    }

    // ---- other ways to play ----

    private static void twoHeaps() {
        sentence(TERMS, "TWO HEAPS (0 to 20 each), LAST (0 to 40)");
        DoubleHeap x = with(ALL, "mt(1=1)");
        due("20 and 20", x.two(0, 20, 20, 0, 0), 0);
        due("20 and 19", x.two(0, 20, 19, 0, 0), 1);
        due("last 40", x.two(1, 20, 20, 40, 0), 0);
        due("last 40", x.two(1, 20, 0, 40, 0), 1);
        int[] nones = {-1, 21, Integer.MIN_VALUE, Integer.MAX_VALUE};
        for (int heap : nones) {
            due("the first " + heap, x.two(0, heap, 0, 0, 0), -1);
            due("the second " + heap, x.two(0, 0, heap, 0, 0), -1);
        }
        due("last -1", x.two(0, 0, 0, -1, 0), -1);
        due("last 41", x.two(0, 0, 0, 41, 0), -1);
        due("what 2", x.two(0, 0, 0, 0, 2), -1);
        due("what -1", x.two(0, 0, 0, 0, -1), -1);
        sentence(TERMS, "one takes from one of them, by TAKES of that HEAP; who has no TAKE in either has lost");
        DoubleHeap y = with("m1(n=3)", "m2(t=0);mt(1=1)", THREE);
        due("nothing is there", y.two(0, 0, 0, 0, 0), 0);
        due("a take in the first alone", y.two(0, 3, 2, 0, 1), 1);
        due("a take in the second alone", y.two(0, 2, 3, 0, 1), 101);
        due("a take in neither", y.two(0, 2, 2, 0, 0), 0);
        due("a take in both: the other has the second", y.two(0, 3, 3, 0, 0), 0);
        due("last is what was taken from the other heap", y.two(1, 1, 2, 1, 0), 1);
        due("last is what was taken from the other heap", y.two(1, 2, 2, 1, 0), 0);
        due("threes: like remainders are lost", y.two(2, 1, 17, 0, 0), 0);
        due("threes: unlike ones are won", y.two(2, 1, 18, 0, 1), 101);
    }

    private static void twoNone() {
        sentence(TERMS, "the GOOD TAKE from the first HEAP, else the second, the least there (100 times the HEAP, 0 or 1, and the TAKE; -2: none)");
        DoubleHeap x = with(ALL, ODD, THREE);
        due("all of the first", x.two(0, 20, 0, 0, 1), 20);
        due("all of the second", x.two(0, 0, 20, 0, 1), 120);
        due("one of the first", x.two(0, 20, 19, 0, 1), 1);
        due("one of the second", x.two(0, 19, 20, 0, 1), 101);
        due("none", x.two(0, 20, 20, 0, 1), -2);
        due("none is there", x.two(0, 0, 0, 0, 1), -2);
        // By odd takes any is good if there is an odd number in all.
        due("the least of the first", x.two(1, 3, 4, 0, 1), 1);
        due("the least of the first, though the second has one too", x.two(1, 4, 3, 0, 1), 1);
        due("the second, as the first is empty", x.two(1, 0, 3, 0, 1), 101);
        // 5 and 7 by threes: 2 leaves 3 of the first, 2 leaves 5 of the second.
        due("the first ahead of the second", x.two(2, 5, 7, 0, 1), 2);
    }

    private static void growingBy() {
        sentence(TERMS, "GROWING by 0 to 3");
        DoubleHeap x = with(THREE);
        due("by 0", x.growing(0, 7, 0, 0, 1), 3);
        due("by 3 of 1", x.growing(0, 1, 0, 3, 1), 1);
        due("by 3 of 3", x.growing(0, 3, 0, 3, 1), 3);
        int[] nones = {-1, 4, Integer.MIN_VALUE, Integer.MAX_VALUE};
        for (int by : nones) {
            due("by " + by, x.growing(0, 1, 0, by, 0), -1);
        }
        due("what 2", x.growing(0, 1, 0, 0, 2), -1);
        due("what -1", x.growing(0, 1, 0, 0, -1), -1);
        sentence("Promise 13", "1 the least GOOD TAKE (-2: none)");
        due("nothing is there", x.growing(0, 0, 0, 3, 1), -2);
        due("nothing is there", x.growing(0, 0, 0, 3, 0), 0);
        due("none", x.growing(0, 4, 0, 0, 1), -2);
        due("the least of two", with(ODD).growing(0, 3, 0, 0, 1), 1);
    }

    private static void growingSomethingLeft() {
        sentence(TERMS, "behind each TAKE by which something is left so many come to it");
        DoubleHeap x = with(ONE, "m1(n=2)", "m1(n=3);m1(n=4)", "m2(n=2)");
        // If three came to nothing it would go on to the 20th take, which is the other's.
        due("nothing comes to nothing", x.growing(0, 1, 0, 3, 0), 1);
        due("something comes to one", x.growing(0, 2, 0, 3, 0), 0);
        due("1 and 0 are 1: no take", x.growing(1, 2, 0, 0, 0), 1);
        due("1 and 1 are 2: it goes on", x.growing(1, 2, 0, 1, 0), 0);
        due("1 and 2 are 3: no take", x.growing(1, 2, 0, 2, 0), 1);
        due("1 and 3 are 4: no take", x.growing(1, 2, 0, 3, 0), 1);
        due("3: 2 and 2 are 4, 3 and 2 are 5", x.growing(2, 3, 0, 2, 0), 0);
        due("3: 2 and 3 are 5", x.growing(2, 3, 0, 3, 0), 1);
        // Last is what was taken, whatever came to it.
        DoubleHeap y = with("m2(t=0);m1(t=2)");
        due("2 of 9, then one more may be taken, then none", y.growing(0, 9, 0, 3, 1), 1);
        due("behind 2", y.growing(0, 9, 2, 3, 1), 1);
        due("behind 1", y.growing(0, 9, 1, 3, 1), -2);
    }

    private static void growingFortyAtMost() {
        sentence(TERMS, "(40 at most are there)");
        DoubleHeap x = with("m1(n=40)", "m1(n=40);m2(n=39)", "m3(n=40);f(x<3)", "m40(n=40);f(x<39)");
        due("39 and 0", x.growing(0, 40, 0, 0, 0), 1);
        due("39 and 1 are 40", x.growing(0, 40, 0, 1, 0), 0);
        due("39 and 2 are 40", x.growing(0, 40, 0, 2, 0), 0);
        due("39 and 3 are 40", x.growing(0, 40, 0, 3, 0), 0);
        due("39: 38 and 1 or 37 and 1", x.growing(1, 39, 0, 1, 1), 2);
        due("39: 38 and 2 are 40, 37 and 2 are 39", x.growing(1, 39, 0, 2, 0), 0);
        due("40: 37 and 3 are 40", x.growing(2, 40, 0, 3, 0), 0);
        due("40: 37 and 2 are 39", x.growing(2, 40, 0, 2, 0), 1);
        due("40: 1 and 3 are 4, or none", x.growing(3, 40, 0, 3, 1), 39);
    }

    private static void growingTwentyTakes() {
        sentence(TERMS, "who is to take behind 20 TAKES has lost");
        DoubleHeap x = with(ONE, "m2(1=1)");
        due("19 takes: it ends by itself", x.growing(0, 19, 0, 0, 0), 1);
        due("20 takes: so, too", x.growing(0, 20, 0, 0, 0), 0);
        due("21 takes would be won", x.growing(0, 21, 0, 0, 0), 0);
        due("39 takes would be won", x.growing(0, 39, 0, 0, 0), 0);
        due("without end", x.growing(0, 2, 0, 1, 0), 0);
        due("the plain game of 21", x.state(0, 21, 0, 0), 1);
        // By two at most 39 takes 20 at least: the other wins by taking one each time.
        due("40 by two at most", x.growing(1, 40, 0, 0, 0), 0);
        due("the plain game of 40 by two at most", x.state(1, 40, 0, 0), 1);
        due("25 by two at most is won in 17", x.growing(1, 25, 0, 0, 0), 1);
    }

    private static void eachByOwn() {
        sentence("Promise 14", "EACH BY AN OWN LAW (told ones), what 0 WON, 1 the least GOOD TAKE (-2: none); NONE: no such ones");
        DoubleHeap x = with(ONE, "m2(1=1)", NO_TAKE);
        due("nothing is there", x.each(0, 1, 0, 0, 0), 0);
        due("nothing is there", x.each(0, 1, 0, 0, 1), -2);
        due("of 40 against who has no take", x.each(0, 2, 40, 0, 1), 1);
        due("who has no take", x.each(2, 0, 40, 0, 1), -2);
        due("one by the same law", x.each(1, 1, 3, 0, 0), 0);
        due("one by the same law", x.each(1, 1, 4, 0, 0), 1);
        due("two at most against one: 3", x.each(1, 0, 3, 0, 1), 1);
        due("one against two at most: 3", x.each(0, 1, 3, 0, 1), -2);
        due("one against two at most: 1", x.each(0, 1, 1, 0, 1), 1);
        due("not told", x.each(0, 3, 1, 0, 0), -1);
        due("not told", x.each(3, 0, 1, 0, 0), -1);
        due("law 4", x.each(0, 4, 1, 0, 0), -1);
        due("law -1", x.each(0, -1, 1, 0, 0), -1);
        due("what 2", x.each(0, 1, 1, 0, 2), -1);
        due("what -1", x.each(0, 1, 1, 0, -1), -1);
        // Two at most against one each time: all is won, and the other way round 1 alone.
        for (int heap = 1; heap <= 40; heap++) {
            due("two at most against one, " + heap, x.each(1, 0, heap, 0, 0), 1);
            due("one against two at most, " + heap, x.each(0, 1, heap, 0, 0), heap == 1 ? 1 : 0);
        }
        // Odd takes against twice what was taken: played out here once more.
        String[] laws = {"m5(1=1);f(x%2=0)", "mt*2(t>0);m3(1=1)"};
        DoubleHeap z = with(laws);
        for (int heap = 0; heap <= 40; heap++) {
            due("odd ones against twice, " + heap, z.each(0, 1, heap, 0, 1), leastAgainst(z, 0, heap, 0));
            due("twice against odd ones, " + heap, z.each(1, 0, heap, 4, 1), leastAgainst(z, 1, heap, 4));
        }
        // Each is bound by what the other took: half of it at most, and as much.
        DoubleHeap y = with("mn-1(t=0);mt/2(1=1)", "mt(1=1)");
        due("he of 2: 1, then the other takes 1", y.each(0, 1, 2, 0, 0), 0);
        due("he of 3: 2 leaves 1; 1 leaves 2, the other takes 1, and half of 1 is none", y.each(0, 1, 3, 0, 1), -2);
        due("the other of 3 behind 2: 1, and half of 1 is none", y.each(1, 0, 3, 2, 1), 1);
        due("the other of 3 behind none yet", y.each(1, 0, 3, 0, 1), -2);
    }

    /** The least good take of one by a law, 0 or 1, the other by the other one. */
    private static int leastAgainst(DoubleHeap z, int l, int heap, int last) {
        long takes = z.takes(l, heap, last, 0);
        for (int x = 1; x <= heap; x++) {
            if ((takes >> x & 1) != 0 && !wonAgainst(z, 1 - l, heap - x, x)) {
                return x;
            }
        }
        return -2;
    }

    private static boolean wonAgainst(DoubleHeap z, int l, int heap, int last) {
        int known = KNOWN[l][heap][last];
        if (known == 0) {
            known = leastAgainst(z, l, heap, last) > 0 ? 1 : 2;
            KNOWN[l][heap][last] = known;
        }
        return known == 1;
    }

    private static void onesOrLost() {
        sentence(TERMS, "ONES: who takes one each time (if it is a TAKE; else has lost), who is to take now, wins whatever the other takes");
        DoubleHeap x = with(ONE, "m3(1=1);f(x=1)", "m2(1=1)", "m1(t=0)");
        due("nothing is there", x.ones(0, 0, 0), 0);
        due("the last one", x.ones(0, 1, 0), 1);
        due("the other takes the last one", x.ones(0, 2, 0), 0);
        due("39", x.ones(0, 39, 40), 1);
        due("40", x.ones(0, 40, 40), 0);
        due("one is no take, though two and three are", x.ones(1, 3, 0), 0);
        due("the other may take two", x.ones(2, 3, 0), 0);
        due("the other has no take", x.ones(3, 40, 0), 1);
        due("behind 1 one is no take", x.ones(3, 40, 1), 0);
        DoubleHeap y = with("m1(t=0);m1(t=2)", "m1(t=0);m1(t=1)");
        due("behind his one the other has no take", y.ones(0, 2, 0), 1);
        due("behind his one the other has a take", y.ones(1, 2, 0), 0);
        // He takes 1 of 4, then 1 or 2 (if 3 are there): 2 or 1 are left; of 2 he leaves 1.
        due("he must win whatever comes", with("m1(n>3);m2(n=3);m1(1=1)").ones(0, 4, 0), 0);
        due("behind 1 of 3 he has no take", with("m1(n>3);m2(n=3);m1(n<2)").ones(0, 4, 0), 0);
        due("he wins whatever comes", with("m1(n=4);m2(n=3);f(x=1&n=3);m1(n<2)").ones(0, 4, 0), 1);
    }

    private static void passesNoneOrOne() {
        sentence(TERMS, "PASSES: each may pass so many times (0 or 1 told for each; LAST stays as it is): who has no TAKE and no pass has lost");
        DoubleHeap x = with(ONE, NO_TAKE);
        int[] nones = {-1, 2, Integer.MIN_VALUE, Integer.MAX_VALUE};
        for (int none : nones) {
            due("own " + none, x.passes(0, 1, 0, none, 0, 0), -1);
            due("others " + none, x.passes(0, 1, 0, 0, none, 0), -1);
            due("what " + none, x.passes(0, 1, 0, 0, 0, none), -1);
        }
        for (int l = 0; l <= 1; l++) {
            int heap = l == 0 ? 0 : 40;
            due("no take, no pass", x.passes(l, heap, 0, 0, 0, 0), 0);
            due("no take, a pass", x.passes(l, heap, 0, 1, 0, 0), 1);
            due("no take, the other's pass", x.passes(l, heap, 0, 0, 1, 0), 0);
            due("no take, each a pass", x.passes(l, heap, 0, 1, 1, 0), 0);
        }
        due("one is there", x.passes(0, 1, 0, 0, 0, 0), 1);
        due("one is there: the other passes behind it", x.passes(0, 1, 0, 0, 1, 0), 0);
        due("one is there: he passes behind the other's pass", x.passes(0, 1, 0, 1, 1, 0), 1);
        due("two are there: he passes", x.passes(0, 2, 0, 1, 0, 0), 1);
        due("two are there", x.passes(0, 2, 0, 0, 0, 0), 0);
        // Who alone has a pass wins always, if each has one it is as if none had.
        DoubleHeap z = with(DOUBLE, THREE, ODD, "m4(1=1);f(x=t)");
        for (int l = 0; l < 4; l++) {
            for (int heap = 0; heap <= 40; heap++) {
                for (int last = 0; last <= 40; last += 4) {
                    int plain = z.state(l, heap, last, 0);
                    String state = "law " + l + ", " + heap + " behind " + last;
                    due("no passes: " + state, z.passes(l, heap, last, 0, 0, 0), plain);
                    due("each a pass: " + state, z.passes(l, heap, last, 1, 1, 0), plain);
                    due("own pass: " + state, z.passes(l, heap, last, 1, 0, 0), 1);
                    due("the other's pass: " + state, z.passes(l, heap, last, 0, 1, 0), 0);
                    int noTake = z.state(l, heap, last, 4) == 0 ? 1 : 0;
                    due("by a pass alone: " + state, z.passes(l, heap, last, 1, 0, 1), noTake);
                    due("not by a pass alone: " + state, z.passes(l, heap, last, 1, 1, 1), 0);
                }
            }
        }
        // Behind 3 one may be taken, behind 0 none.
        DoubleHeap y = with("m1(t=3)", "m1(t>0)");
        due("last stays: behind a pass the other takes", y.passes(0, 1, 3, 1, 0, 1), 0);
        due("last stays 0", y.passes(1, 1, 0, 1, 0, 0), 1);
        due("last stays 0: nobody takes", y.passes(1, 1, 0, 1, 1, 0), 0);
    }

    private static void passAlone() {
        sentence(TERMS, "a pass is the only GOOD way (no TAKE is one)");
        DoubleHeap x = with(ONE, THREE, "m1(n=1)");
        due("nothing is there", x.passes(0, 0, 0, 1, 0, 1), 1);
        due("a take is good", x.passes(0, 1, 0, 0, 0, 1), 0);
        due("a take is good, and none the other way", x.passes(0, 1, 0, 1, 0, 1), 0);
        due("it is lost", x.passes(0, 2, 0, 0, 0, 1), 0);
        due("it is lost with a pass of the other", x.passes(0, 0, 0, 1, 1, 1), 0);
        due("a take is good as well", x.passes(1, 4, 0, 1, 0, 1), 0);
        due("no take at 2, a pass leaves 2", x.passes(2, 2, 0, 1, 0, 1), 1);
        // 2 by ones, each a pass: 1, then the other may pass, he as well, and the other takes.
        due("2 by ones, a pass each: lost", x.passes(0, 2, 0, 1, 1, 0), 0);
        due("2 by ones, own pass: 1 first, or a pass", x.passes(0, 2, 0, 1, 0, 1), 0);
    }

    private static void hopeEnds() {
        sentence(TERMS, "won for sure 1000000, lost 0");
        DoubleHeap x = with(THREE, NO_TAKE, ONE);
        due("she has no take", x.hope(1, 40, 0, 0, 0), 0);
        due("the child has none", x.hope(1, 40, 0, 1, 0), 1000000);
        due("nothing is there, she", x.hope(0, 0, 0, 0, 0), 0);
        due("nothing is there, the child", x.hope(0, 0, 0, 1, 0), 1000000);
        due("she takes the last", x.hope(0, 3, 0, 0, 0), 1000000);
        due("the child takes the last", x.hope(0, 1, 0, 1, 0), 0);
        due("won by who knows", x.hope(0, 39, 0, 0, 0), 1000000);
        due("there is no other way: lost", x.hope(2, 40, 0, 0, 0), 0);
        due("there is no other way: won", x.hope(2, 40, 0, 1, 0), 1000000);
        int[] nones = {-1, 2, Integer.MIN_VALUE, Integer.MAX_VALUE};
        for (int none : nones) {
            due("who " + none, x.hope(0, 1, 0, none, 0), -1);
            due("what " + none, x.hope(0, 1, 0, 0, none), -1);
        }
    }

    private static void hopeRounds() {
        sentence(TERMS, "where the child is to take, of all its TAKES what is behind each, added up, through how many, rounded down; where she is, the greatest that is behind a TAKE");
        DoubleHeap x = with(THREE);
        due("one of two", x.hope(0, 2, 0, 1, 0), 500000);
        due("two of three, rounded down", x.hope(0, 3, 0, 1, 0), 666666);
        due("the greatest of 666666, 500000 and 0", x.hope(0, 4, 0, 0, 0), 666666);
        due("2666666 through 3, rounded down", x.hope(0, 5, 0, 1, 0), 888888);
        due("2666666 through 3, again", x.hope(0, 6, 0, 1, 0), 888888);
        due("666666 and twice 1000000, again", x.hope(0, 7, 0, 1, 0), 888888);
        // Three of 8 by her leave 888888 each.
        due("she of 8", x.hope(0, 8, 0, 0, 0), 888888);
        due("888888 and twice 1000000 through 3", x.hope(0, 9, 0, 1, 0), 962962);
    }

    private static void hopeTake() {
        sentence(TERMS, "her TAKE (of like ones the least)");
        DoubleHeap x = with(THREE, NO_TAKE, ODD);
        due("the greatest hope", x.hope(0, 4, 0, 0, 1), 1);
        due("the last three", x.hope(0, 3, 0, 0, 1), 3);
        due("like ones", x.hope(0, 8, 0, 0, 1), 1);
        due("like ones, all lost", x.hope(2, 40, 0, 0, 1), 1);
        due("like ones, all won", x.hope(2, 39, 0, 0, 1), 1);
        due("the least take may be above 1", with("m5(1=1);f(x<3)").hope(0, 40, 0, 0, 1) >= 3, true);
        sentence("Promise 17", "1 her TAKE (-2: none, or it is not hers to take)");
        due("none", x.hope(1, 40, 0, 0, 1), -2);
        due("nothing is there", x.hope(0, 0, 0, 0, 1), -2);
        due("not hers", x.hope(0, 3, 0, 1, 1), -2);
        due("not hers, and none", x.hope(1, 40, 0, 1, 1), -2);
    }

    // ---- rows of lost numbers ----

    private static void pattern(String what, int lag, int from, int many, int... lost) {
        DoubleHeap x = with(lost.length == 0 ? ALL : losingAt(lost));
        due(what + ": lag", x.pattern(0, 0), lag);
        due(what + ": place", x.pattern(0, 1), from);
        due(what + ": how many", x.pattern(0, 2), many);
    }

    private static void lags() {
        sentence(TERMS, "PATTERN: the least lag (0 to 5) by which in the row of LOST NUMBERS each one from some place on is the one ahead of it and the one that stands so many places farther ahead, together");
        pattern("lag 0", 0, 1, 4, 1, 2, 4, 8);
        pattern("lag 1", 1, 2, 5, 1, 2, 3, 5, 8);
        pattern("lag 2", 2, 3, 6, 2, 3, 4, 6, 9, 13);
        pattern("lag 3", 3, 4, 7, 3, 4, 5, 6, 9, 13, 18);
        pattern("lag 4", 4, 5, 8, 1, 2, 3, 4, 5, 6, 8, 11);
        pattern("lag 5", 5, 6, 9, 1, 2, 3, 4, 5, 6, 7, 9, 12);
        pattern("lag 6 is too much", -2, -2, 10, 1, 2, 3, 4, 5, 6, 7, 8, 10, 13);
        // 3 6 9 15 24: lag 1 from 9 on; lag 0 for 6 alone.
        pattern("the least of those that hold", 1, 2, 5, 3, 6, 9, 15, 24);
        // 5 10 20 40 by lag 0; by lag 1 20 would be 15.
        pattern("to the end of all", 0, 1, 4, 5, 10, 20, 40);
        DoubleHeap x = with(DOUBLE);
        due("what 3", x.pattern(0, 3), -1);
        due("what -1", x.pattern(0, -1), -1);
        due("not told", x.pattern(1, 2), -1);
    }

    private static void threePlaces() {
        sentence(TERMS, "(for three places at least, up to the last one)");
        pattern("three places of lag 0", 0, 1, 4, 3, 6, 12, 24);
        pattern("two places of lag 0", -2, -2, 3, 3, 6, 12);
        pattern("three places of lag 1", 1, 2, 5, 4, 5, 9, 14, 23);
        pattern("two places of lag 1", -2, -2, 4, 4, 5, 9, 14);
        pattern("two places of lag 5", -2, -2, 8, 1, 2, 3, 4, 5, 6, 7, 9);
        pattern("three places, but not the last one", -2, -2, 5, 3, 6, 12, 24, 25);
        pattern("two places behind one that is not so", -2, -2, 5, 3, 6, 7, 14, 28);
        pattern("three places behind one that is not so", 0, 2, 5, 1, 4, 8, 16, 32);
        sentence("Promise 18", "-2 (of 0, 1): none");
        pattern("no number", -2, -2, 0);
        pattern("one number", -2, -2, 1, 7);
        pattern("two numbers", -2, -2, 2, 7, 14);
    }

    private static void fromPlace() {
        sentence(TERMS, "from which place on (the least)");
        pattern("from 1", 0, 1, 6, 1, 2, 4, 8, 16, 32);
        pattern("from 2, as 5 is not twice 1", 0, 2, 5, 1, 5, 10, 20, 40);
        pattern("from 3", 1, 3, 6, 1, 4, 6, 10, 16, 26);
        pattern("from 2, as 1 is alone", 1, 2, 6, 2, 4, 6, 10, 16, 26);
        pattern("from 5", 0, 5, 8, 1, 2, 3, 4, 5, 10, 20, 40);
    }

    private static void simples() {
        sentence(TERMS, "SIMPLE: laws by which from LAST 0 any number but all may be taken, else at most k times LAST and c more (k, c 0 to 4 each)");
        for (int k = 0; k <= 4; k++) {
            for (int c = 0; c <= 4; c++) {
                DoubleHeap x = with("mn-1(t=0);mt*" + k + "+" + c + "(1=1)");
                due("there is one like " + k + c, x.simple(0, 0) > 0, true);
            }
        }
        DoubleHeap x = with("mn-1(t=0);mt*5+4(1=1)", "mn-1(t=0);mt*4+5(1=1)", "mn(t=0);mt*2(1=1)", "mn-1(t=0);mt*0+5(1=1)");
        due("all may be taken at first: no number is lost", x.simple(2, 0), 0);
        due("all may be taken at first: no number is lost", x.simple(2, 1), -2);
        due("no times and 5", x.simple(3, 0), 0);
        due("no times and 5", x.simple(3, 1), -2);
        due("what 2", x.simple(0, 2), -1);
        due("what -1", x.simple(0, -1), -1);
    }

    private static void simpleFirst() {
        sentence(TERMS, "of these 25 those that have the same LOST NUMBERS as a LAW: how many; the first (10 k and c, least)");
        long[] lost = new long[25];
        for (int i = 0; i < 25; i++) {
            lost[i] = with("mn-1(t=0);mt*" + i / 5 + "+" + i % 5 + "(1=1)").lost(0);
        }
        for (int i = 0; i < 25; i++) {
            int many = 0;
            int first = -2;
            for (int other = 24; other >= 0; other--) {
                if (lost[other] == lost[i]) {
                    many++;
                    first = other / 5 * 10 + other % 5;
                }
            }
            DoubleHeap x = with("mn-1(t=0);mt*" + i / 5 + "+" + i % 5 + "(1=1)");
            due("how many like " + i / 5 + i % 5, x.simple(0, 0), many);
            due("the first like " + i / 5 + i % 5, x.simple(0, 1), first);
        }
        due("only 1 is lost: nobody takes twice", with(losingAt(1)).simple(0, 1), 0);
        due("the numbers of 20, by another law", with(losingAt(1, 2, 3, 5, 8, 13, 21, 34)).simple(0, 1), 20);
        due("all but the last of these", with(losingAt(1, 2, 3, 5, 8, 13, 21)).simple(0, 1), -2);
        due("one more, the fortieth", with(losingAt(1, 2, 3, 5, 8, 13, 21, 34, 40)).simple(0, 1), -2);
    }

    private static void unlikeStates() {
        sentence(TERMS, "UNLIKE: in how many STATES (HEAP 0 to 40, LAST 0 to 40) two LAWS have other TAKES, in how many other winners");
        DoubleHeap x = with(NO_TAKE, "m1(n=40&t=40)", "m1(n=1&t=0)", "m1(1=1)");
        due("the last state alone", x.unlike(0, 1, 0), 1);
        due("the last state alone", x.unlike(0, 1, 1), 1);
        due("the last state alone", x.unlike(0, 1, 2), 4040);
        due("the first state that has takes", x.unlike(0, 2, 0), 1);
        due("the first state that has takes", x.unlike(0, 2, 1), 1);
        due("the first state that has takes", x.unlike(0, 2, 2), 100);
        due("both of these", x.unlike(1, 2, 0), 2);
        due("both of these", x.unlike(2, 1, 1), 2);
        due("all states but those of heap 0", x.unlike(0, 3, 0), 40 * 41);
        due("odd heaps", x.unlike(0, 3, 1), 20 * 41);
        due("like itself", x.unlike(3, 3, 0), 0);
        due("like itself", x.unlike(3, 3, 1), 0);
        due("what 3", x.unlike(0, 1, 3), -1);
        due("what -1", x.unlike(0, 1, -1), -1);
    }

    private static void unlikeWinners() {
        sentence("Promise 21", "what 0 TAKES, 1 winners, 2 the first of these (-2: none)");
        DoubleHeap x = with("m2(n=2);m1(1=1)", "m2(n=2);m1(1=1);f(n=2&x=1)", "m2(n=2);m1(1=1);f(n=2&x=2)", "m2(n=2);m1(1=1);f(n=2&t>38)");
        due("other takes at 2 behind each last", x.unlike(0, 1, 0), 41);
        due("the same winners", x.unlike(0, 1, 1), 0);
        due("the same winners", x.unlike(0, 1, 2), -2);
        due("other winners from 2 on", x.unlike(0, 2, 1), 39 * 41);
        due("the first: 2 behind 0", x.unlike(0, 2, 2), 200);
        due("at 2 behind 39 and 40", x.unlike(0, 3, 1), 2);
        due("the first: 2 behind 39", x.unlike(0, 3, 2), 239);
        due("the other way round", x.unlike(3, 0, 2), 239);
    }
}
