/**
 * Each sentence on games that were played, the game by the stove and the other calls that names a
 * boundary case, with the calls just inside the boundary and just outside it.
 */
public final class PlayEdgeTest extends Bench {
    private static final String TERMS = "Terms";

    public static void main(String[] args) {
        newObject();
        lastCall();
        judged();
        judgedPlayers();
        fromWhen();
        thought();
        chance();
        chanceTooGreat();
        chanceOnTheWay();
        stoveHeaps();
        stoveAnew();
        takes();
        takesByLaw();
        she();
        child();
        childModulo();
        drawsWrap();
        backNone();
        backFull();
        againstWins();
        againstChangesNothing();
        evenings();
        eveningsBehind();
        seeds();
        kept();
        keptLast();
        check();
        checkBehindLast();
        counts();
        end();
    }

    private static void newObject() {
        sentence("Promise 1", "No LAWS, GAMES; by the stove a HEAP of 0, LAST 0, LAW 0; THE SEED 1");
        DoubleHeap x = new DoubleHeap();
        due("heap", x.count(0), 0);
        due("last", x.count(1), 0);
        due("law", x.count(2), 0);
        due("to take back", x.count(3), 0);
        due("laws", x.count(4), 0);
        due("games", x.count(5), 0);
        due("the tape", x.count(6), 0);
        due("the seed", x.count(7), 1);
        for (int l = 0; l < 4; l++) {
            due("law " + l, x.lost(l), -1);
        }
        for (int g = 0; g < 9; g++) {
            due("game " + g, x.count(20 + g), -1);
        }
        due("law 0 is not told: she", x.she(), -1);
        due("law 0 is not told: a child", x.child(), -1);
        due("law 0 is not told: a take", x.take(1), -1);
        due("back", x.back(), -2);
        due("undo", x.undo(), false);
        law(x, 0, ONE);
        due("law 0 is told now, a heap of 0: she", x.she(), -2);
        due("law 0 is told now, a heap of 0: a child", x.child(), -2);
        due("law 0 is told now, a heap of 0: a take", x.take(1), -1);
        due("no draw", x.count(7), 1);
    }

    private static void lastCall() {
        sentence("What it is", "An object is used for at most 512 calls after it has been made");
        DoubleHeap x = with(THREE);
        x.stove(0, 40);
        // Two calls told the law, the third began the game.
        int calls = 3;
        while (calls < 505) {
            x.child();
            x.back();
            calls += 2;
        }
        x.child();
        x.back();
        x.count(0);
        x.feed(0, 0, 0, 0, 0);
        due("call 510", x.law(1, 1), -1000);
        due("call 511", x.state(0, 40, 0, 5), 20);
        due("call 512", x.count(7), drawn(252));
    }

    /** X behind so many draws from 1. */
    private static int drawn(int many) {
        long x = 1;
        for (int i = 0; i < many; i++) {
            x = (25173 * x + 13849) % 65536;
        }
        return (int) x;
    }

    // ---- games that were played ----

    private static void judged(DoubleHeap x, int g, int player, int none, int could, int good, int all) {
        due("player " + player + ": none by the law", x.judged(g, 0, player, 0), none);
        due("player " + player + ": there was a good one", x.judged(g, 0, player, 1), could);
        due("player " + player + ": good", x.judged(g, 0, player, 2), good);
        due("player " + player + ": in all", x.judged(g, 0, player, 3), all);
    }

    private static void judged() {
        sentence(TERMS, "JUDGED, of GAMES, by a LAW, a player (0: who begins, 1: the other one): TAKES that were none by the LAW; TAKES where there was a GOOD one; of these GOOD ones");
        DoubleHeap x = with(DOUBLE);
        game(x, 0, "7:");
        judged(x, 0, 0, 0, 0, 0, 0);
        judged(x, 0, 1, 0, 0, 0, 0);
        game(x, 1, "7:2");
        judged(x, 1, 0, 0, 1, 1, 1);
        judged(x, 1, 1, 0, 0, 0, 0);
        // 7: 1 (2 was good); 6 behind 1: 4 is none (1 was good); 2 behind 4: 2 is good.
        game(x, 2, "7:1,4,2");
        judged(x, 2, 0, 0, 2, 1, 2);
        judged(x, 2, 1, 1, 1, 0, 1);
        // 5: none is good, 4 at most; 5 behind none yet is no take.
        game(x, 3, "5:5");
        judged(x, 3, 0, 1, 0, 0, 1);
        // 40: 6 leaves 34; behind 6 12 are the most; 13 is none; 21 behind 13 all are good to take.
        game(x, 4, "40:6,13,21");
        judged(x, 4, 0, 0, 2, 2, 2);
        judged(x, 4, 1, 1, 0, 0, 1);
        game(x, 5, "40:" + ones(40));
        due("forty takes, half each", x.judged(5, 0, 0, 3), 20);
        due("forty takes, half each", x.judged(5, 0, 1, 3), 20);
        // By one each time, from 40 on: all heaps but 2 and 1 behind 1 that are no sums with a 1.
        due("none of them was none", x.judged(5, 0, 0, 0) + x.judged(5, 0, 1, 0), 0);
    }

    private static void judgedPlayers() {
        sentence("Promise 22", "2 GOOD ones of these, 3 TAKES in all; NONE: no such ones");
        DoubleHeap x = with(THREE);
        game(x, 0, "7:3,1,3");
        int[] nones = {-1, 2, Integer.MIN_VALUE, Integer.MAX_VALUE};
        for (int player : nones) {
            due("judged of player " + player, x.judged(0, 0, player, 0), -1);
            due("from when on of player " + player, x.fromWhen(0, player), -1);
            due("thought of player " + player, x.thought(player), -1);
            due("chance of player " + player, x.chance(0, 0, player, 0), -1);
        }
        due("what 4", x.judged(0, 0, 0, 4), -1);
        due("what -1", x.judged(0, 0, 0, -1), -1);
        due("game 9", x.judged(9, 0, 0, 3), -1);
        due("game -1", x.judged(-1, 0, 0, 3), -1);
        due("not told", x.judged(1, 0, 0, 3), -1);
        due("law not told", x.judged(0, 1, 0, 3), -1);
    }

    private static void fromWhen() {
        sentence(TERMS, "FROM WHEN ON: over all told GAMES by numbers (of each the TAKES of that player where there was a GOOD one), all were GOOD: how many of them there were so at the end");
        DoubleHeap x = with(THREE);
        due("no games", x.fromWhen(0, 0), 0);
        game(x, 4, "7:");
        due("no takes", x.fromWhen(0, 0), 0);
        game(x, 4, "7:3");
        due("a good one", x.fromWhen(0, 0), 1);
        game(x, 8, "7:2");
        due("a slip in the last game", x.fromWhen(0, 0), 0);
        game(x, 8, "4:2");
        due("no good one was there: it does not count", x.fromWhen(0, 0), 1);
        game(x, 8, "7:3,1,3");
        due("two good ones more", x.fromWhen(0, 0), 3);
        game(x, 0, "7:2");
        due("a slip in the first game", x.fromWhen(0, 0), 3);
        game(x, 0, "7:3");
        due("all were good", x.fromWhen(0, 0), 4);
        game(x, 5, "7:2,2,3");
        due("a slip between, a good one behind it", x.fromWhen(0, 0), 3);
        game(x, 5, "7:4");
        due("a take that was none, where there was a good one, is a slip", x.fromWhen(0, 0), 2);
        game(x, 5, "8:4");
        due("a take that was none, where there was no good one, does not count", x.fromWhen(0, 0), 4);
        due("the other took once, where there was none", x.fromWhen(0, 1), 0);
        // By what was taken last: 6 behind 1 has 1 as its good one, 4 is none.
        DoubleHeap y = with(DOUBLE);
        game(y, 0, "7:1,1");
        due("the other's good one", y.fromWhen(0, 1), 1);
        game(y, 1, "7:1,4");
        due("the other's slip", y.fromWhen(0, 1), 0);
        due("not told", y.fromWhen(1, 0), -1);
        due("law 4", y.fromWhen(4, 0), -1);
    }

    private static void thought() {
        sentence(TERMS, "THOUGHT: told LAWS (bits) by which in all told GAMES all TAKES of a player were TAKES, and GOOD where there was a GOOD one");
        DoubleHeap x = new DoubleHeap();
        due("no laws", x.thought(0), 0);
        law(x, 3, THREE);
        due("no games: all that are told", x.thought(0), 0b1000);
        law(x, 0, ONE);
        law(x, 1, "m2(1=1)");
        due("no games: all that are told", x.thought(1), 0b1011);
        game(x, 8, "4:");
        due("no takes: all that are told", x.thought(0), 0b1011);
        game(x, 8, "4:1");
        due("of 4: 1 is no good one by ones and threes (lost), good by two at most", x.thought(0), 0b1011);
        game(x, 0, "3:2");
        due("of 3: 2 is none by ones, lost by two at most, bad by threes", x.thought(0), 0b0010);
        due("the other has not taken", x.thought(1), 0b1011);
        game(x, 7, "5:1");
        due("of 5: 2 is good by two at most", x.thought(0), 0);
        game(x, 7, "5:2,1");
        due("of 5: 2 is good by two at most", x.thought(0), 0b0010);
        due("the other of 3: 1 is good by ones, 3 by threes", x.thought(1), 0b0011);
    }

    private static void chance(DoubleHeap x, int g, int player, long above, long below) {
        due("above, player " + player + " of game " + g, x.chance(g, 0, player, 0), above);
        due("below, player " + player + " of game " + g, x.chance(g, 0, player, 1), below);
    }

    private static void chance() {
        sentence(TERMS, "CHANCE: how likely one who takes any of the TAKES, each alike, takes a GOOD one each time (in the STATES of a told GAME in which that player took and there was a GOOD one by a LAW)");
        DoubleHeap x = with(DOUBLE);
        game(x, 0, "7:");
        chance(x, 0, 0, 1, 1);
        game(x, 1, "8:1");
        chance(x, 1, 0, 1, 1);
        game(x, 2, "7:1");
        chance(x, 2, 0, 1, 6);
        chance(x, 2, 1, 1, 1);
        // 6 behind 1: one of two; 2 behind 4: one of two.
        game(x, 3, "7:1,4,2");
        chance(x, 3, 0, 1, 12);
        chance(x, 3, 1, 1, 2);
        // 4 behind 2: 1 and 4 are good, of four: one half.
        game(x, 4, "6:2,2");
        chance(x, 4, 1, 1, 2);
        due("what 2", x.chance(0, 0, 0, 2), -1);
        due("what -1", x.chance(0, 0, 0, -1), -1);
        due("not told", x.chance(5, 0, 0, 0), -1);
        due("game 9", x.chance(9, 0, 0, 0), -1);
        due("law not told", x.chance(0, 1, 0, 0), -1);
        // Of 9 five may be taken; 7 and 5 are lost, as there nothing may be.
        DoubleHeap y = with("m5(n=9);m1(n%2=0)");
        game(y, 0, "9:1");
        chance(y, 0, 0, 2, 5);
    }

    private static void chanceTooGreat() {
        sentence("Promise 25", "-2: a number above 1000000000000 would come");
        DoubleHeap x = with("m10(1=1)");
        game(x, 0, "40:" + ones(23));
        chance(x, 0, 0, 1, 100000000000L);
        // 22 is lost: eleven and twelve times one of ten.
        game(x, 0, "40:" + ones(25));
        chance(x, 0, 0, 1, 1000000000000L);
        game(x, 0, "40:" + ones(26));
        chance(x, 0, 0, 1, 1000000000000L);
        game(x, 0, "40:" + ones(27));
        chance(x, 0, 0, -2, -2);
        game(x, 0, "40:" + ones(40));
        chance(x, 0, 0, -2, -2);
    }

    private static void chanceOnTheWay() {
        sentence("Promise 25", "(below, on the way, without a common divisor each time)");
        // Odd heaps are lost; from 40 to 20 eight of fifteen are good, of 18 nine of sixteen.
        DoubleHeap x = with("m15(n>19&n%2=0);m17(n=18);m1(n%2=0);f(x=2&n=18)");
        due("eight of fifteen", x.state(0, 40, 0, 3) * 100 + x.state(0, 40, 0, 4), 815);
        due("eight of fifteen", x.state(0, 20, 1, 3) * 100 + x.state(0, 20, 1, 4), 815);
        due("nine of sixteen", x.state(0, 18, 1, 3) * 100 + x.state(0, 18, 1, 4), 916);
        game(x, 0, "40:" + ones(19));
        chance(x, 0, 0, 1L << 30, 576650390625L);
        game(x, 0, "40:" + ones(21));
        chance(x, 0, 0, -2, -2);
        // 15 to the 11th by 9 would be 961083984375, but on the way it was more.
        game(x, 0, "40:" + ones(23));
        chance(x, 0, 0, -2, -2);
        // By one less of these it stays below all the way: 15 to the 10th by 9.
        game(x, 0, "38:" + ones(21));
        chance(x, 0, 0, (1L << 30) / 16, 576650390625L / 9);
        // 20 of 20, 19 of 19 and so on are nothing but 1 each time.
        DoubleHeap y = with(ODD);
        game(y, 0, "39:" + ones(39));
        chance(y, 0, 0, 1, 1);
    }

    // ---- by the stove ----

    private static void stoveHeaps() {
        sentence("Promise 26", "BY THE STOVE a HEAP (0 to 40) by a told LAW");
        DoubleHeap x = with(ONE);
        law(x, 3, THREE);
        due("0", x.stove(0, 0), true);
        due("40", x.stove(3, 40), true);
        due("its law", x.count(2), 3);
        int[] nones = {-1, 41, Integer.MIN_VALUE, Integer.MAX_VALUE};
        for (int none : nones) {
            due("heap " + none, x.stove(0, none), false);
            due("law " + none, x.stove(none, 9), false);
        }
        due("law 4", x.stove(4, 9), false);
        due("law 1 is not told", x.stove(1, 9), false);
        due("the game goes on", x.count(0) * 10 + x.count(2), 403);
    }

    private static void stoveAnew() {
        sentence("Promise 26", "LAST 0, nothing to take back: true; false: no such ones");
        DoubleHeap x = with(THREE);
        x.stove(0, 9);
        x.take(3);
        due("last", x.count(1), 3);
        due("refused", x.stove(0, 41), false);
        due("heap", x.count(0), 6);
        due("last", x.count(1), 3);
        due("to take back", x.count(3), 1);
        due("anew with the same heap", x.stove(0, 6), true);
        due("last", x.count(1), 0);
        due("to take back", x.count(3), 0);
        due("none", x.back(), -2);
    }

    private static void takes() {
        sentence("Promise 27", "One takes by the stove: how many are left; NONE: that is no TAKE");
        DoubleHeap x = with(THREE);
        x.stove(0, 5);
        int[] nones = {-1, 0, 4, 5, 6, 33, 41, 64, 65, 66, Integer.MIN_VALUE, Integer.MIN_VALUE + 1, Integer.MAX_VALUE};
        for (int none : nones) {
            due("take " + none, x.take(none), -1);
        }
        due("nothing is changed", x.count(0) * 100 + x.count(1) * 10 + x.count(3), 500);
        due("3", x.take(3), 2);
        due("more than are there", x.take(3), -1);
        due("all that are there", x.take(2), 0);
        due("nothing is there", x.take(1), -1);
        due("last", x.count(1), 2);
        due("to take back", x.count(3), 2);
        DoubleHeap y = with(ALL);
        y.stove(0, 40);
        due("41", y.take(41), -1);
        due("40", y.take(40), 0);
        due("last", y.count(1), 40);
    }

    private static void takesByLaw() {
        sentence("Promise 27", "NONE: that is no TAKE");
        DoubleHeap x = with(DOUBLE, "m3(1=1);f(x=2)");
        x.stove(0, 5);
        due("not all at first", x.take(5), -1);
        due("all but one", x.take(4), 1);
        x.stove(0, 9);
        due("2", x.take(2), 7);
        due("more than twice", x.take(5), -1);
        due("twice", x.take(4), 3);
        x.stove(1, 9);
        due("forbidden", x.take(2), -1);
        due("beside it", x.take(1), 8);
        due("by the law as it is told now", law(x, 1, NO_TAKE), 1);
        due("no take any more", x.take(1), -1);
        due("but it can be taken back", x.back(), 1);
    }

    private static void she() {
        sentence(TERMS, "SHE takes: the least GOOD TAKE, if there is none the least TAKE");
        DoubleHeap x = with(THREE, "m5(1=1);f(x<3)", ODD);
        x.stove(0, 7);
        due("the good one", x.she(), 3);
        due("no good one: the least", x.she(), 1);
        x.stove(1, 8);
        due("no good one: the least, 3", x.she(), 3);
        x.stove(1, 7);
        due("the least of 5 alone (2 are left)", x.she(), 5);
        x.stove(2, 39);
        due("the least good one of twenty", x.she(), 1);
        sentence("Promise 28", "-2: she has no TAKE; NONE: the stove's LAW is not told");
        x.stove(1, 2);
        due("no take, though two are there", x.she(), -2);
        due("nothing is changed", x.count(0) * 100 + x.count(1) * 10 + x.count(3), 200);
        x.stove(0, 0);
        due("nothing is there", x.she(), -2);
        x.stove(0, 1);
        due("the last one", x.she(), 1);
        due("nothing is there any more", x.she(), -2);
        due("one to take back", x.count(3), 1);
        due("no draw", x.count(7), 1);
        due("not told", new DoubleHeap().she(), -1);
    }

    private static void child() {
        sentence("Promise 29", "-2: it has no TAKE (no DRAW); NONE: the stove's LAW is not told");
        DoubleHeap x = with(ONE, NO_TAKE);
        x.stove(1, 40);
        due("no take", x.child(), -2);
        due("no draw", x.count(7), 1);
        x.stove(0, 0);
        due("nothing is there", x.child(), -2);
        due("no draw", x.count(7), 1);
        x.stove(0, 1);
        due("the only take", x.child(), 1);
        due("a draw, though there was but one", x.count(7), 39022);
        due("no more", x.child(), -2);
        due("no draw", x.count(7), 39022);
        DoubleHeap y = new DoubleHeap();
        due("not told", y.child(), -1);
        due("no draw", y.count(7), 1);
    }

    private static void childModulo() {
        sentence(TERMS, "with a DRAW any of the TAKES (the least first, by X modulo how many there are)");
        DoubleHeap x = with("m40(1=1)", "m40(1=1);f(x%2=1)");
        // From 3915 the draw is 0, from 33870 it is 65535.
        x.stove(0, 40);
        x.seed(3915);
        due("0: the least", x.child(), 1);
        due("X", x.count(7), 0);
        x.stove(0, 6);
        x.seed(33870);
        due("65535 of 6: the fourth", x.child(), 4);
        due("X", x.count(7), 65535);
        x.stove(0, 16);
        x.seed(33870);
        due("65535 of 16: the last", x.child(), 16);
        x.stove(1, 6);
        x.seed(33870);
        due("65535 of 2 4 6: the least", x.child(), 2);
        x.stove(1, 9);
        x.seed(33870);
        due("65535 of 2 4 6 8: the last", x.child(), 8);
        x.stove(0, 40);
        DoubleHeap y = with("m40(1=1);f(x<40)");
        y.stove(0, 40);
        due("the only one, 40", y.child(), 40);
        // 39022 is 975 times 40 and 22 more.
        x.seed(1);
        due("39022 of 40: the 23rd", x.child(), 23);
    }

    private static void drawsWrap() {
        sentence(TERMS, "DRAWS: X = (25173 X + 13849) modulo 65536 (X is THE SEED at first, 1)");
        int[] from = {1, 0, 65535, 3915, 33870, 2, 39022};
        int[] to = {39022, 13849, 54212, 0, 65535, 64195, 61087};
        for (int i = 0; i < from.length; i++) {
            DoubleHeap x = with(ONE);
            x.stove(0, 40);
            x.seed(from[i]);
            x.child();
            due("behind " + from[i], x.count(7), to[i]);
        }
        DoubleHeap y = with(ONE);
        y.stove(0, 40);
        for (int i = 1; i <= 40; i++) {
            y.child();
            due("draw " + i, y.count(7), drawn(i));
        }
    }

    private static void backNone() {
        sentence("Promise 30", "One TAKE is TAKEN BACK: how many; -2: there is none");
        DoubleHeap x = with(THREE);
        due("none", x.back(), -2);
        x.stove(0, 9);
        due("none", x.back(), -2);
        x.take(3);
        x.she();
        x.child();
        int draw = x.count(7);
        due("three to take back", x.count(3), 3);
        x.back();
        due("the draw stays", x.count(7), draw);
        due("hers", x.back(), 2);
        due("left", x.count(0), 6);
        due("last", x.count(1), 3);
        due("his", x.back(), 3);
        due("left", x.count(0), 9);
        due("last", x.count(1), 0);
        due("none", x.back(), -2);
        due("left", x.count(0), 9);
        due("none to take back", x.count(3), 0);
    }

    private static void backFull() {
        sentence(TERMS, "TAKEN BACK: one TAKE each");
        DoubleHeap x = with(ONE);
        x.stove(0, 40);
        for (int i = 1; i <= 40; i++) {
            due("take " + i, x.take(1), 40 - i);
        }
        due("a 41st", x.take(1), -1);
        due("a 41st", x.she(), -2);
        due("forty to take back", x.count(3), 40);
        for (int i = 1; i <= 40; i++) {
            due("back " + i, x.back(), 1);
            due("left", x.count(0), i);
            due("to take back", x.count(3), 40 - i);
        }
        due("a 41st", x.back(), -2);
        due("and again", x.take(1), 39);
    }

    private static void againstWins() {
        sentence(TERMS, "AGAINST A CHILD: SHE (who begins, or is second) and a child play a game from a HEAP by DRAWS that will come");
        DoubleHeap x = with(ONE, ALL, NO_TAKE, "m2(1=1)");
        due("nothing is there: she begins", x.against(0, 0, 0, 0), 0);
        due("nothing is there: no takes", x.against(0, 0, 0, 1), 0);
        due("nothing is there: the child begins", x.against(0, 0, 1, 0), 1);
        due("no take: she begins", x.against(2, 40, 0, 0), 0);
        due("no take: the child begins", x.against(2, 40, 1, 0), 1);
        due("no take: none", x.against(2, 40, 1, 1), 0);
        due("forty takes", x.against(0, 40, 0, 1), 40);
        due("forty takes: the child has the last", x.against(0, 40, 0, 0), 0);
        due("forty takes: she has the last", x.against(0, 40, 1, 0), 1);
        due("all at once", x.against(1, 40, 0, 1), 1);
        due("all at once", x.against(1, 40, 0, 0), 1);
        DoubleHeap y = with("mn(t=0)", "m40(t=0);mt(1=1);f(x<9&t=0)");
        due("last is 0 at first, then what was taken: the child has no take", y.against(0, 40, 0, 1), 1);
        due("last is 0 at first, then what was taken: she has no take", y.against(0, 40, 1, 0), 0);
        // She takes all ten at once: behind 9 the child could take the last one.
        due("each by what was taken last", y.against(1, 10, 0, 1), 1);
        // The draw of 39022: of 3 by two at most the first, 1; she takes the other two.
        due("the child begins with 1 of 3", x.against(3, 3, 1, 1), 2);
        // She of 3: 1; the child of 2 by 39022: 1; she takes the last.
        due("she begins with 1 of 3", x.against(3, 3, 0, 1), 3);
        due("she begins with 1 of 3 and wins by chance", x.against(3, 3, 0, 0), 1);
        int[] nones = {-1, 2, Integer.MIN_VALUE, Integer.MAX_VALUE};
        for (int none : nones) {
            due("begins " + none, x.against(0, 1, none, 0), -1);
            due("what " + none, x.against(0, 1, 0, none), -1);
        }
        due("heap 41", x.against(0, 41, 0, 0), -1);
        due("heap -1", x.against(0, -1, 0, 0), -1);
        due("law 4", x.against(4, 1, 0, 0), -1);
    }

    private static void againstChangesNothing() {
        sentence(TERMS, "(nothing is changed)");
        DoubleHeap x = with(THREE);
        x.stove(0, 9);
        x.take(2);
        int first = x.against(0, 40, 1, 1);
        due("the same again", x.against(0, 40, 1, 1), first);
        x.evenings(30, 0, 40, 1);
        due("the same again", x.against(0, 40, 1, 1), first);
        due("X", x.count(7), 1);
        due("heap", x.count(0), 7);
        due("last", x.count(1), 2);
        due("to take back", x.count(3), 1);
    }

    private static void evenings() {
        sentence(TERMS, "EVENINGS: n of them (1 to 30)");
        DoubleHeap x = with(ONE);
        due("one", x.evenings(1, 0, 39, 0), 1);
        due("thirty", x.evenings(30, 0, 39, 0), 30);
        due("thirty, the child has the last", x.evenings(30, 0, 40, 0), 0);
        due("of none", x.evenings(30, 0, 0, 1), 30);
        int[] nones = {-1, 0, 31, Integer.MIN_VALUE, Integer.MAX_VALUE};
        for (int n : nones) {
            due("n " + n, x.evenings(n, 0, 39, 0), -1);
        }
        due("heap 41", x.evenings(1, 0, 41, 0), -1);
        due("heap -1", x.evenings(1, 0, -1, 0), -1);
        due("begins 2", x.evenings(1, 0, 1, 2), -1);
        due("begins -1", x.evenings(1, 0, 1, -1), -1);
        due("law 1 is not told", x.evenings(1, 1, 1, 0), -1);
    }

    private static void eveningsBehind() {
        sentence(TERMS, "each so, one behind the other: how many she wins");
        // The child begins with 3: by 1 or 2 she takes the rest, by 3 she has lost.
        DoubleHeap x = with(THREE);
        int won = 0;
        for (int n = 1; n <= 30; n++) {
            won += drawn(n) % 3 == 2 ? 0 : 1;
            due(n + " evenings", x.evenings(n, 0, 3, 1), won);
        }
        // An evening without a draw of the child leaves X as it is for the next one.
        due("no draws", x.evenings(30, 0, 3, 0), 30);
        due("the first evening is that of against", x.evenings(1, 0, 3, 1), x.against(0, 3, 1, 0));
        // Two draws an evening by ones of 4.
        DoubleHeap y = with("m1(n=4);m1(n=3);m2(n=2);m1(n=1)");
        won = 0;
        for (int n = 1; n <= 30; n++) {
            // The child of 4: 1; she of 3: 1; the child of 2: 1 or 2 by the second draw.
            won += drawn(2 * n) % 2 == 0 ? 1 : 0;
            due(n + " evenings of two draws", y.evenings(n, 0, 4, 1), won);
        }
    }

    private static void seeds() {
        sentence("Promise 33", "THE SEED (0 to 65535; X, too): true; false: no such number");
        DoubleHeap x = new DoubleHeap();
        due("0", x.seed(0), true);
        due("X", x.count(7), 0);
        due("65535", x.seed(65535), true);
        due("X", x.count(7), 65535);
        int[] nones = {-1, 65536, Integer.MIN_VALUE, Integer.MAX_VALUE};
        for (int none : nones) {
            due("" + none, x.seed(none), false);
            due("X", x.count(7), 65535);
        }
    }

    // ---- kept and undone ----

    private static void kept() {
        sentence("Promise 35", "UNDONE: true; false: none was KEPT");
        DoubleHeap x = with(THREE);
        x.stove(0, 9);
        x.take(2);
        due("none was kept", x.undo(), false);
        due("nothing is changed", x.count(0) * 100 + x.count(1) * 10 + x.count(3), 721);
        sentence("Promise 34", "KEPT: the HEAP by the stove");
        due("kept", x.keep(), 7);
        due("undone at once", x.undo(), true);
        due("nothing is changed", x.count(0) * 100 + x.count(1) * 10 + x.count(3), 721);
        DoubleHeap y = new DoubleHeap();
        due("a new one is kept", y.keep(), 0);
        law(y, 1, THREE);
        y.stove(1, 40);
        y.seed(9);
        due("undone", y.undo(), true);
        due("as it was new", y.count(0) + y.count(1) + y.count(2) + y.count(3), 0);
        due("X", y.count(7), 1);
        due("the law stays told", y.count(4), 2);
    }

    private static void keptLast() {
        sentence(TERMS, "KEPT: the game by the stove, X; UNDONE: as they were KEPT last");
        DoubleHeap x = with(THREE, ONE);
        x.stove(0, 40);
        x.take(3);
        x.take(2);
        x.seed(500);
        x.keep();
        x.take(3);
        x.seed(700);
        due("kept once more", x.keep(), 32);
        x.child();
        x.stove(1, 5);
        x.take(1);
        due("undone", x.undo(), true);
        due("as kept last: heap", x.count(0), 32);
        due("last", x.count(1), 3);
        due("law", x.count(2), 0);
        due("to take back", x.count(3), 3);
        due("X", x.count(7), 700);
        due("back", x.back(), 3);
        due("back", x.back(), 2);
        due("back", x.back(), 3);
        due("back", x.back(), -2);
        x.take(1);
        due("undone again, the same", x.undo(), true);
        due("heap", x.count(0), 32);
        due("last", x.count(1), 3);
        due("what came behind did not change what was kept", x.back(), 3);
        due("what came behind did not change what was kept", x.back(), 2);
        game(x, 0, "5:1");
        feed(x, 1, 2, 3);
        law(x, 2, "?");
        feed(x, 1, 2, 3);
        due("undone", x.undo(), true);
        due("games stay", x.count(5), 1);
        due("laws stay", x.count(4), 3);
        due("the tape stays", x.count(6), 20);
    }

    // ---- check and count ----

    private static void check() {
        sentence("Promise 36", "(0 to 40; empty then; behind the last LOST NUMBER 0): NONE: right; else the place of the first one that is not so; -2: no such ones, it has not so many (the tape stays)");
        DoubleHeap x = with(NO_TAKE);
        due("none of an empty tape", x.check(0, 0), -1);
        due("one of an empty tape", x.check(0, 1), -2);
        int[] forty = new int[40];
        for (int i = 0; i < 40; i++) {
            forty[i] = i + 1;
        }
        feed(x, forty);
        due("41 of 40", x.check(0, 41), -2);
        due("-1", x.check(0, -1), -2);
        due("not told", x.check(1, 1), -2);
        due("law 4", x.check(4, 1), -2);
        due("law -1", x.check(-1, 1), -2);
        due("the tape stays", x.count(6), 40);
        due("40 of 40", x.check(0, 40), -1);
        due("the tape is empty", x.count(6), 0);
        feed(x, forty);
        feed(x, 7);
        due("41 of 60", x.check(0, 41), -2);
        due("the tape stays", x.count(6), 60);
        due("none of 60", x.check(0, 0), -1);
        due("the tape is empty", x.count(6), 0);
        for (int place = 0; place < 40; place += 13) {
            forty[place]++;
            feed(x, forty);
            due("the first that is not so", x.check(0, 40), place);
            due("the tape is empty", x.count(6), 0);
            feed(x, forty);
            due("those ahead of it are right", x.check(0, place), -1);
            forty[place]--;
        }
        feed(x, forty);
        due("21 of 40", x.check(0, 21), -1);
    }

    private static void checkBehindLast() {
        sentence("Promise 36", "behind the last LOST NUMBER 0");
        DoubleHeap x = with(losingAt(7), ALL, NO_TAKE);
        feed(x, 7);
        due("the only one", x.check(0, 1), -1);
        due("by another law there are forty", x.lostAt(2, 39), 40);
        feed(x, 7, 0, 0);
        due("0 behind it", x.check(0, 3), -1);
        feed(x, 7, 0, 1);
        due("1 behind it", x.check(0, 3), 2);
        feed(x, 7, 7);
        due("itself behind it", x.check(0, 2), 1);
        feed(x, 0);
        due("0 in place of it", x.check(0, 1), 0);
        feed(x, new int[40]);
        due("forty times 0 without lost numbers", x.check(1, 40), -1);
        due("by another law there are forty", x.lostAt(2, 0), 1);
        feed(x, 0);
        due("0 without lost numbers", x.check(1, 1), -1);
        int[] last = new int[40];
        last[39] = 255;
        feed(x, last);
        due("the fortieth is not 0", x.check(1, 40), 39);
    }

    private static void counts() {
        sentence("Promise 37", "10 + l RULES of told LAW l, 20 + g TAKES of told GAME g. NONE for others");
        DoubleHeap x = new DoubleHeap();
        String[] laws = {"f(1=1)", "f(1=1);f(1=1)", "f(1=1);f(1=1);f(1=1)", "f(1=1);f(1=1);f(1=1);f(1=1)"};
        for (int l = 0; l < 4; l++) {
            due("not told yet", x.count(10 + l), -1);
            law(x, l, laws[l]);
            due("rules of " + l, x.count(10 + l), l + 1);
        }
        for (int g = 0; g < 9; g++) {
            due("not told yet", x.count(20 + g), -1);
            game(x, g, g == 0 ? "9:" : "9:" + ones(g));
            due("takes of " + g, x.count(20 + g), g);
        }
        due("told laws", x.count(4), 15);
        due("told games", x.count(5), 511);
        int[] nones = {-1, 8, 9, 14, 19, 29, 30, 40, Integer.MIN_VALUE, Integer.MAX_VALUE};
        for (int none : nones) {
            due("what " + none, x.count(none), -1);
        }
        due("what 7", x.count(7), 1);
        due("what 0", x.count(0), 0);
    }
}
