/**
 * Each sentence on the tape and on the texts of laws and games that names a boundary case, with
 * what stands just inside the boundary and just outside it.
 */
public final class TextEdgeTest extends Bench {
    private static final String TERMS = "Terms";
    private static final String DIGITS = "0123456789";
    private static final String FACTOR = DIGITS + "ntx[";
    private static final String TEST = FACTOR + "!(";
    private static final String OPERATORS = "+-*/%";
    private static final String EIGHT = repeated("f(1=1)", 8, ";");

    public static void main(String[] args) {
        tapeFull();
        tapeBytes();
        lawNumbers();
        lawBytes();
        lawLengths();
        lawTapeStays();
        lawFaultStays();
        noBlanks();
        rules();
        letters();
        bounds();
        firstRule();
        anyForbids();
        parts();
        tests();
        comparisons();
        fromTheLeft();
        digits();
        heapLastTake();
        wrapAround();
        roundToZero();
        dividedByZero();
        asMuchAsMatters();
        whatCanStand();
        sixthDigit();
        ninthRule();
        seventhOpen();
        notTakenBack();
        gameNumbers();
        gameBytes();
        gameTapeStays();
        gameFaultStays();
        gameHeap();
        gameColon();
        gameTakes();
        gameDigits();
        gameWhatCanStand();
        heapAboveForty();
        takeOfTooMany();
        fortyFirstTake();
        byNoLaw();
        end();
    }

    // ---- the tape ----

    private static void tapeFull() {
        sentence("Promise 2", "how many it has; NONE if that would be more than 260");
        DoubleHeap x = new DoubleHeap();
        due("empty", x.count(6), 0);
        due("the first", x.feed(1, 2, 3, 4, 5), 20);
        for (int i = 2; i < 13; i++) {
            x.feed(1, 2, 3, 4, 5);
        }
        due("240", x.count(6), 240);
        due("just full", x.feed(1, 2, 3, 4, 5), 260);
        due("more than full", x.feed(1, 2, 3, 4, 5), -1);
        due("nothing has come", x.count(6), 260);
        due("a fault empties it", x.law(0, 1), -1000);
        due("there is room again", x.feed(1, 2, 3, 4, 5), 20);
        DoubleHeap y = with(ONE);
        for (int i = 0; i < 13; i++) {
            y.feed(0x02040608, 0x0A0C0E10, 0x12141618, 0x1A1C1E20, 0x22242628);
        }
        y.feed(0, 0, 0, 0, 0);
        due("what was refused has changed no byte", y.check(0, 20), -1);
    }

    private static void tapeBytes() {
        sentence("Promise 2", "Twenty bytes come behind the tape, the highest of each int first");
        DoubleHeap x = with(NO_TAKE);
        x.feed(0x01020304, 0x05060708, 0x090A0B0C, 0x0D0E0F10, 0x11121314);
        x.feed(0x15161718, 0x191A1B1C, 0x1D1E1F20, 0x21222324, 0x25262728);
        due("forty bytes in their order", x.check(0, 40), -1);
        x.feed(0x010203FF, -1, -1, -1, -1);
        due("the lowest byte is 255, not -1", x.check(0, 4), 3);
        x.feed(0x81020304, 0, 0, 0, 0);
        due("the highest byte is 129, not 1", x.check(0, 4), 0);
    }

    // ---- laws ----

    private static void lawNumbers() {
        sentence(TERMS, "LAWS 0 to 3: told or not");
        DoubleHeap x = new DoubleHeap();
        due("law 0", law(x, 0, ONE), 1);
        due("law 3", law(x, 3, NO_TAKE), 1);
        due("law 4", law(x, 4, ONE), -1);
        due("law -1", x.law(-1, 7), -1);
        due("0 and 3 are told", x.count(4), 0b1001);
        due("law 0", x.lost(0), EVEN_HEAPS);
        due("law 3", x.lost(3), ALL_HEAPS);
        due("law 1 is not told", x.lost(1), -1);
        due("law 2 is not told", x.lost(2), -1);
    }

    /** A law of one rule by which one may be taken, of so many bytes. */
    private static String longLaw(int bytes) {
        String start = bytes % 2 == 0 ? "m01" : "m1";
        return start + repeated("+0", (bytes - start.length() - 5) / 2, "") + "(1=1)";
    }

    private static void lawBytes() {
        sentence(TERMS, "each a TEXT of at most 160 bytes");
        DoubleHeap x = new DoubleHeap();
        due("160 bytes", longLaw(160).length(), 160);
        due("160 bytes", law(x, 0, longLaw(160)), 1);
        due("160 bytes are a law", x.lost(0), EVEN_HEAPS);
        due("161 bytes", longLaw(161).length(), 161);
        due("161 bytes", law(x, 0, longLaw(161)), -1);
        due("the tape stays", x.count(6), 180);
        due("of these the first 160", x.law(0, 160), -1160);
        due("159 bytes", law(x, 1, longLaw(159)), 1);
    }

    private static void lawLengths() {
        sentence("Promise 3", "LAW l by the first n bytes of the tape (1 to 160; empty then)");
        DoubleHeap x = new DoubleHeap();
        feed(x, "f(1=1)".chars().toArray());
        due("no bytes", x.law(0, 0), -1);
        due("less than none", x.law(0, -1), -1);
        due("the tape stays", x.count(6), 20);
        due("one byte", x.law(0, 1), -1001);
        due("the tape is empty", x.count(6), 0);
        feed(x, "f(1=1);f(1=1)".chars().toArray());
        due("what stands behind the first bytes does not count", x.law(0, 6), 1);
        due("but is gone", x.count(6), 0);
        feed(x, "f(1=1);f(1=1)".chars().toArray());
        due("a ; at the end of them", x.law(0, 7), -1007);
        feed(x, "m12(1=1)".chars().toArray());
        due("a digit behind them", x.law(0, 2), -1002);
    }

    private static void lawTapeStays() {
        sentence("Promise 3", "NONE: no such ones, it has not so many (the tape stays)");
        DoubleHeap x = new DoubleHeap();
        due("an empty tape", x.law(0, 1), -1);
        feed(x, "f(1=1)              ".chars().toArray());
        due("21 of 20", x.law(0, 21), -1);
        due("the tape stays", x.count(6), 20);
        due("no such law", x.law(4, 6), -1);
        due("the tape stays", x.count(6), 20);
        due("no law is told", x.count(4), 0);
        due("20 of 20: a blank", x.law(0, 20), -1006);
        due("the tape is empty", x.count(6), 0);
    }

    private static void lawFaultStays() {
        sentence("Promise 3", "a FAULT: -1000 times its number, less its place (the one before stays)");
        DoubleHeap x = with(ONE);
        due("a fault at place 0", law(x, 0, "?"), -1000);
        due("a fault in the last byte", law(x, 0, "m9(1=1?"), -1006);
        due("a fault at the end", law(x, 0, "m9(1=1"), -1006);
        due("a fault behind a whole rule", law(x, 0, "m9(1=1);"), -1008);
        due("a fault at place 159", law(x, 0, longLaw(159) + "?"), -1159);
        due("the one before stays", x.lost(0), EVEN_HEAPS);
        due("it has one rule", x.count(10), 1);
        due("one that was not told is not", law(x, 1, "m9(1=1);"), -1008);
        due("one that was not told is not", x.count(4), 1);
        sentence("Promise 3", "in place of the one before: how many RULES");
        due("in place of the one before", law(x, 0, "m3(1=1);f(1=0)"), 2);
        due("in place of the one before", x.lost(0), bits(4, 8, 12, 16, 20, 24, 28, 32, 36, 40));
        due("in place of the one before", x.count(10), 2);
        due("in place of that one, the first again", law(x, 0, ONE), 1);
        due("in place of that one, the first again", x.lost(0), EVEN_HEAPS);
        // None of the rules of the one before is left.
        law(x, 1, "m3(1=1);m5(1=1);f(x=1);f(x=2);m5(1=1);f(x=1);f(x=2);m5(1=1)");
        due("eight rules", x.takes(1, 9, 0, 0), bits(3));
        law(x, 1, "m3(1=1);f(1=0)");
        due("then two", x.takes(1, 9, 0, 0), bits(1, 2, 3));
        law(x, 1, "f(1=0)");
        due("then one, not of m", x.takes(1, 9, 0, 0), 0);
        law(x, 1, "f(1=0);f(1=1)");
        law(x, 1, "m3(1=1&1=1&1=1)");
        due("a second one that forbade does so no more", x.takes(1, 9, 0, 0), bits(1, 2, 3));
        law(x, 1, "f(1=0);m9(1=1)");
        law(x, 1, "f(x=9&7=7&1=1|n=99)");
        due("a second one of m lets no more", x.takes(1, 9, 0, 0), 0);
        // The longest text, over and over: each time there is room for all of it.
        for (int i = 0; i < 20; i++) {
            due("the longest text again", law(x, i % 4, longLaw(160)), 1);
            due("the longest text again", x.lost(i % 4), EVEN_HEAPS);
        }
        due("the longest text behind a long one with a fault", law(x, 0, longLaw(159) + "?"), -1159);
        due("the longest text behind a long one with a fault", law(x, 0, longLaw(160)), 1);
        due("the longest text behind a long one with a fault", x.lost(0), EVEN_HEAPS);
    }

    private static void noBlanks() {
        sentence(TERMS, "no blanks");
        String text = "m12+[t*3](!1=1|(n<2)&t>3);f(x=10)";
        lawText(text, 2);
        for (int i = 0; i <= text.length(); i++) {
            lawText(text.substring(0, i) + " " + text.substring(i), -1000 - i);
        }
    }

    private static void rules() {
        sentence(TERMS, "RULES (8 at most) with a ; (59) between two");
        lawText("f(1=1)", 1);
        lawText("f(1=1);m1(1=1)", 2);
        lawText(EIGHT, 8);
        lawText(EIGHT + ";f(1=1)", -4056);
        lawText("f(1=1)m1(1=1)", -1006);
        lawText("f(1=1):m1(1=1)", -1006);
        lawText("f(1=1)<m1(1=1)", -1006);
        lawText("f(1=1);", -1007);
        lawText("f(1=1);;m1(1=1)", -1007);
        lawText(";f(1=1)", -1000);
        due("the eighth counts", with(repeated("m0(1=0)", 7, ";") + ";m4(1=1)").state(0, 40, 0, 4), 4);
        due("the eighth forbids", with("m3(1=1);" + repeated("f(1=0)", 6, ";") + ";f(x=2)").takes(0, 9, 0, 0), bits(1, 3));
    }

    private static void letters() {
        sentence(TERMS, "a letter, E, and (C), of f only (C)");
        lawText("m1(1=1)", 1);
        lawText("m(1=1)", -1001);
        lawText("f(1=1)", 1);
        lawText("f1(1=1)", -1001);
        for (String other : new String[] {"l", "n", "e", "g", "M", "F", "t", "x"}) {
            lawText(other + "1(1=1)", -1000);
        }
    }

    private static void bounds() {
        sentence(TERMS, "m how many may be taken at most (0 to 40: of the first RULE of m whose C holds the E, beyond its bounds the bound; none: 0)");
        most("m0(1=1)", 0);
        most("m0-1(1=1)", 0);
        most("m0-40(1=1)", 0);
        most("m1(1=1)", 1);
        most("m39(1=1)", 39);
        most("m40(1=1)", 40);
        most("m41(1=1)", 40);
        most("m99999(1=1)", 40);
        most("m32768*65536-1(1=1)", 40);
        most("m32768*65536(1=1)", 0);
    }

    private static void firstRule() {
        sentence(TERMS, "of the first RULE of m whose C holds the E");
        String text = "m7(n>39);f(1=0);m6(n>38);m5(n>37)";
        DoubleHeap x = with(text);
        due("the first holds", x.state(0, 40, 0, 4), 7);
        due("the second holds", x.state(0, 39, 0, 4), 6);
        due("the last holds", x.state(0, 38, 0, 4), 5);
        due("none holds", x.state(0, 37, 0, 4), 0);
        most("f(1=0)", 0);
        most("m0(1=1);m9(1=1)", 0);
        most("m0-9(1=1);m9(1=1)", 0);
    }

    private static void anyForbids() {
        sentence(TERMS, "f a take is forbidden (any will do)");
        DoubleHeap x = with("m4(1=1)", "m4(1=1);f(x=1);f(x=4)", "f(x>0);m4(1=1)", "m4(1=1);f(x=0);f(x>4)");
        due("no rule of f", x.takes(0, 9, 0, 0), bits(1, 2, 3, 4));
        due("by the first or by the second", x.takes(1, 9, 0, 0), bits(2, 3));
        due("all, by a rule ahead of that of m", x.takes(2, 9, 0, 0), 0);
        due("0 and more than m are no takes anyway", x.takes(3, 9, 0, 0), bits(1, 2, 3, 4));
    }

    private static void parts() {
        sentence(TERMS, "C: PARTS with a | between two, one of which must hold");
        most("m5(1=0);m3(1=1)", 3);
        most("m5(1=0|1=0|1=0);m3(1=1)", 3);
        most("m5(1=1|1=0|1=0);m3(1=1)", 5);
        most("m5(1=0|1=1|1=0);m3(1=1)", 5);
        most("m5(1=0|1=0|1=1);m3(1=1)", 5);
        most("m5(1=1|1=1);m3(1=1)", 5);
        sentence(TERMS, "a PART: TESTS with an & between two, all of which must");
        most("m5(1=1&1=1&1=1);m3(1=1)", 5);
        most("m5(1=0&1=1&1=1);m3(1=1)", 3);
        most("m5(1=1&1=0&1=1);m3(1=1)", 3);
        most("m5(1=1&1=1&1=0);m3(1=1)", 3);
        // The & binds before the |.
        most("m5(1=1|1=1&1=0);m3(1=1)", 5);
        most("m5(1=0&1=1|1=1);m3(1=1)", 5);
        most("m5((1=1|1=1)&1=0);m3(1=1)", 3);
        most("m5(1=0&(1=1|1=1));m3(1=1)", 3);
    }

    private static void tests() {
        sentence(TERMS, "a TEST: !TEST, (C), or E, one of < > =, and E");
        most("m5(!1=0);m3(1=1)", 5);
        most("m5(!1=1);m3(1=1)", 3);
        most("m5(!!1=1);m3(1=1)", 5);
        most("m5(!!!1=1);m3(1=1)", 3);
        most("m5((1=0|1=1));m3(1=1)", 5);
        most("m5(!(1=0|1=1));m3(1=1)", 3);
        most("m5(0<1|1=0);m3(1=1)", 5);
        most("m5(1>0|1=0);m3(1=1)", 5);
        most("m5(!0<1);m3(1=1)", 3);
        most("m5(!1>0);m3(1=1)", 3);
        most("m5(!1<0&!0>1);m3(1=1)", 5);
        // A ! reaches as far as its TEST, not to the next one.
        most("m5(!1=0&1=0);m3(1=1)", 3);
        most("m5(!1=1|1=1);m3(1=1)", 5);
        lawText("m5(!)", -1004);
        lawText("m5(())", -1004);
        lawText("m5(1)", -1004);
        lawText("m5(1<)", -1005);
        lawText("m5(<1)", -1003);
        lawText("m5(1<1<1)", -1006);
    }

    private static void comparisons() {
        sentence(TERMS, "one of < > =, and E");
        int[] last = {19, 20, 21};
        int[] less = {5, 3, 3};
        int[] more = {3, 3, 5};
        int[] same = {3, 5, 3};
        for (int i = 0; i < 3; i++) {
            most("m5(t<20);m3(1=1)", last[i], less[i]);
            most("m5(t>20);m3(1=1)", last[i], more[i]);
            most("m5(t=20);m3(1=1)", last[i], same[i]);
        }
        most("m5(0-1<0);m3(1=1)", 5);
        most("m5(32768*65536<0);m3(1=1)", 5);
        most("m5(32768*65536<32768*65536-1);m3(1=1)", 5);
    }

    private static void fromTheLeft() {
        sentence(TERMS, "a TERM: FACTORS with one of * / % between two; from the left on");
        most("m9-4-3(1=1)", 2);
        most("m9-[4-3](1=1)", 8);
        most("m9-4+3(1=1)", 8);
        most("m36/6/2(1=1)", 3);
        most("m36/[6/2](1=1)", 12);
        most("m9/2*2(1=1)", 8);
        most("m2*9/2(1=1)", 9);
        most("m19%10*2(1=1)", 18);
        most("m2*19%10(1=1)", 8);
        most("m2+3*4(1=1)", 14);
        most("m3*4+2(1=1)", 14);
        most("m20-3*4(1=1)", 8);
        most("m20-9/2(1=1)", 16);
        most("m20-9%2(1=1)", 19);
        most("m[2+3]*4(1=1)", 20);
    }

    private static void digits() {
        sentence(TERMS, "a number of one to five digits");
        most("m7(1=1)", 7);
        most("m07(1=1)", 7);
        most("m00007(1=1)", 7);
        most("m99999/9999(1=1)", 10);
        most("m10000/1000(1=1)", 10);
        lawText("m000007(1=1)", -2006);
        lawText("m(1=1)", -1001);
        lawText("m1(=1)", -1003);
    }

    private static void heapLastTake() {
        sentence(TERMS, "t how many were taken last (0: none yet), x how many are to be taken (in f; else 0)");
        DoubleHeap x = with("mt+1(1=1)", "mn(1=1);f(n-t=x)", "m6+x(1=1);m3(1=1)", "m5(x>0);m3(x=0)");
        due("none yet", x.state(0, 40, 0, 4), 1);
        due("39", x.state(0, 40, 39, 4), 40);
        due("40", x.state(0, 40, 40, 4), 40);
        due("n, t and x in f", x.takes(1, 5, 3, 0), bits(1, 3, 4, 5));
        due("n, t and x in f", x.takes(1, 5, 0, 0), bits(1, 2, 3, 4));
        due("n is 0", with("m40(n=0);m9(n=1)").state(0, 1, 0, 4), 1);
        due("x in the E of m", x.state(2, 40, 40, 4), 6);
        due("x in the C of m", x.state(3, 40, 40, 4), 3);
        due("x from 1 on", with("m40(1=1);f(x<1)").takes(0, 40, 0, 0), ALL_HEAPS);
        due("x up to 40", with("m40(1=1);f(x<40)").takes(0, 40, 0, 0), bits(40));
        due("x up to 40", with("m40(1=1);f(x>39)").takes(0, 40, 0, 0), ALL_HEAPS ^ bits(40));
        // The m rule is asked behind a take, too: x is 0 there all the same.
        due("x in m behind an f", with("f(x=2);m3+x(1=1)").takes(0, 9, 2, 0), bits(1, 3));
    }

    private static void wrapAround() {
        sentence(TERMS, "All is reckoned with 32 bits, as the machine does");
        most("m65535*32768+32767(1=1)", 40);
        most("m65535*32768+32767+1(1=1)", 0);
        most("m0-65536*32768+7(1=1)", 0);
        most("m65536*32768-1-65535*32768-32760(1=1)", 7);
        most("m0-65536*32768-1-65535*32768-32760(1=1)", 7);
        most("m65536*65536+6(1=1)", 6);
        most("m65537*65536-65530(1=1)", 6);
        most("m99999*99999-32768*43025-22200(1=1)", 9);
        most("m46340*46340(1=1)", 40);
        most("m46341*46341(1=1)", 0);
        // The least number, by -1: it is itself, and nothing is left over.
        most("m65536*32768/[0-1]+8-65536*32768(1=1)", 8);
        most("m65536*32768%[0-1]+6(1=1)", 6);
        most("m5(65536*65536=0);m3(1=1)", 5);
        most("m5(65535*32768+32767<65536*32768);m3(1=1)", 3);
    }

    private static void roundToZero() {
        sentence(TERMS, "as the machine does");
        most("m[0-7]/2+9(1=1)", 6);
        most("m7/[0-2]+9(1=1)", 6);
        most("m[0-7]/[0-2]+9(1=1)", 12);
        most("m[0-7]%2+9(1=1)", 8);
        most("m7%[0-2]+9(1=1)", 10);
        most("m[0-6]%2+9(1=1)", 9);
        most("m6/7+9(1=1)", 9);
        most("m7/7+9(1=1)", 10);
    }

    private static void dividedByZero() {
        sentence(TERMS, "what is divided by 0 is REFUSED: then a C does not hold, an E is 0");
        // Divided by t: 0 is refused, 1 is not.
        most("m6/t(1=1)", 0, 0);
        most("m6/t(1=1)", 1, 6);
        most("m6%t(1=1)", 0, 0);
        most("m6%t(1=1)", 4, 2);
        most("m6/[t-2](1=1)", 1, 0);
        most("m6/[t-2]+9(1=1)", 1, 3);
        most("m6/[t-2]+9(1=1)", 2, 0);
        most("m6/[t-2]+9(1=1)", 3, 15);
        most("m0/t+9(1=1)", 0, 0);
        most("m0/t+9(1=1)", 1, 9);
        most("m9+6/t(1=1)", 0, 0);
        most("m9+0*[6/t](1=1)", 0, 0);
        most("m9+6%t*0(1=1)", 0, 0);
        // An E that is 0 is the E of the first rule that holds: no other one is asked.
        most("m6/t(1=1);m3(1=1)", 0, 0);
        most("m5(6/t=6);m3(1=1)", 0, 3);
        most("m5(6/t=6);m3(1=1)", 1, 5);
        most("m5(6/t=0);m3(1=1)", 0, 3);
        most("m5(0=6%t);m3(1=1)", 0, 3);
        most("m5(0=6%t);m3(1=1)", 6, 5);
        most("m5(!6/t=7);m3(1=1)", 0, 3);
        most("m5(!6/t=7);m3(1=1)", 1, 5);
        most("m5(!(6/t=7));m3(1=1)", 0, 3);
        most("m5(!(6/t=7));m3(1=1)", 1, 5);
        most("m5(6/t=7|1=1);m3(1=1)", 0, 3);
        most("m5(6/t=7|1=1);m3(1=1)", 1, 5);
        most("m5((6/t=7)|1=1);m3(1=1)", 0, 3);
        DoubleHeap x = with("m3(1=1);f(6/[x-2]>0)", "m3(1=1);f(6/[x-2]>0);f(x=2)");
        due("a refused C forbids nothing", x.takes(0, 9, 0, 0), bits(1, 2));
        due("but another may", x.takes(1, 9, 0, 0), bits(1));
        due("what is refused once is asked anew", x.takes(0, 9, 0, 0), bits(1, 2));
    }

    private static void asMuchAsMatters() {
        sentence(TERMS, "Of a C as much is asked, from the left, as matters");
        most("m5(1=1|1/0=0);m3(1=1)", 5);
        most("m5(1/0=0|1=1);m3(1=1)", 3);
        most("m5(1=0|1=1|1/0=0);m3(1=1)", 5);
        most("m5(1=0|1/0=0|1=1);m3(1=1)", 3);
        most("m5(1=0&1/0=0|1=1);m3(1=1)", 5);
        most("m5(1=1&1/0=0|1=1);m3(1=1)", 3);
        most("m5(!(1=0&1/0=0));m3(1=1)", 5);
        most("m5(!(1=1&1/0=0));m3(1=1)", 3);
        most("m5((1=1|1/0=0)&1=1);m3(1=1)", 5);
        most("m5((1=1|1/0=0)&1/0=0);m3(1=1)", 3);
        most("m5(1=1&1=0&1/0=0|1=1);m3(1=1)", 5);
        most("m5((1=0&1/0=0)|(1=1|1/0=0));m3(1=1)", 5);
        // An E is asked as a whole.
        most("m5(0*[1/0]=0);m3(1=1)", 3);
        // Behind a rule of m that holds no other one is asked, nor the E of one that does not.
        most("m5(1=1);m1/0(1/0=0)", 5);
        most("m1/0(1=0);m5(1=1)", 5);
    }

    /** Behind the start of a text each of the 256 bytes, and the end. */
    private static void stands(String start, String signs, boolean whole) {
        int place = start.length();
        if (place > 0 && !whole) {
            lawText(start, -1000 - place);
        }
        for (int b = 0; b < 256; b++) {
            String text = start + (char) b;
            boolean can = signs.indexOf(b) >= 0;
            boolean makesWhole = b == ')' && whole(text);
            lawText(text, can ? makesWhole ? 1 : -1000 - (place + 1) : -1000 - place);
        }
    }

    /** Whether each bracket is closed: the end may stand behind the ) of a rule. */
    private static boolean whole(String text) {
        return text.chars().filter(c -> c == '(').count() == text.chars().filter(c -> c == ')').count();
    }

    private static void whatCanStand() {
        sentence(TERMS, "1 what can't stand there (the end, too)");
        stands("", "mf", false);
        stands("m", FACTOR, false);
        stands("f", "(", false);
        stands("m1", DIGITS + OPERATORS + "(", false);
        for (String factor : new String[] {"mn", "mt", "mx", "m[1]", "m1+n", "m1%[t]"}) {
            stands(factor, OPERATORS + "(", false);
        }
        for (String start : new String[] {"m[", "m1+", "m1-", "m1*", "m1/", "m1%", "m[[", "m[1+",
            "m1(1<", "m1(1>", "m1(1=", "m1(1+", "m1([", "f(x=[", "f(x=1-"}) {
            stands(start, FACTOR, false);
        }
        stands("m[1", DIGITS + OPERATORS + "]", false);
        stands("m[n", OPERATORS + "]", false);
        stands("f([x", OPERATORS + "]", false);
        for (String start : new String[] {"m1(", "f(", "f((", "f(!", "f(!!", "f(!(", "f(1=1&", "f(1=1|", "f((1=1&", "f(1=1&!"}) {
            stands(start, TEST, false);
        }
        stands("f(1", DIGITS + OPERATORS + "<>=", false);
        stands("f(n", OPERATORS + "<>=", false);
        stands("f(!n", OPERATORS + "<>=", false);
        stands("f([n]", OPERATORS + "<>=", false);
        stands("f(n<1", DIGITS + OPERATORS + "&|)", false);
        stands("f(n<n", OPERATORS + "&|)", false);
        stands("f(n<[n]", OPERATORS + "&|)", false);
        stands("f(!n<n", OPERATORS + "&|)", false);
        stands("f((n<n", OPERATORS + "&|)", false);
        stands("f((n<n)", "&|)", false);
        stands("f(!(n<n)", "&|)", false);
        stands("f(1=1)", ";", true);
        stands("m1(1=1)", ";", true);
        stands("f(1=1);", "mf", false);
    }

    private static void sixthDigit() {
        sentence(TERMS, "2 a sixth digit, at it");
        lawText("m12345(1=1)", 1);
        lawText("m123456(1=1)", -2006);
        lawText("m12345", -1006);
        lawText("m123456", -2006);
        lawText("m000000(1=1)", -2006);
        lawText("m1234567(1=1)", -2006);
        lawText("m12345x(1=1)", -1006);
        lawText("m[12345](1=1)", 1);
        lawText("m[123456](1=1)", -2007);
        lawText("m1+12345(1=1)", 1);
        lawText("m1+123456(1=1)", -2008);
        lawText("f(12345=12345)", 1);
        lawText("f(123456=12345)", -2007);
        lawText("f(12345=123456)", -2013);
        lawText("f(1=1);m123456(1=1)", -2013);
        // The first from the left.
        lawText("m123456?", -2006);
        lawText("m12?456(1=1)", -1003);
    }

    private static void ninthRule() {
        sentence(TERMS, "4 a ninth RULE, at its letter (if that can stand there)");
        lawText(EIGHT, 8);
        lawText(EIGHT + ";", -1056);
        lawText(EIGHT + ";f(1=1)", -4056);
        lawText(EIGHT + ";m1(1=1)", -4056);
        lawText(EIGHT + ";f", -4056);
        lawText(EIGHT + ";m?", -4056);
        lawText(EIGHT + ";g(1=1)", -1056);
        lawText(EIGHT + ";;", -1056);
        lawText(EIGHT + "f(1=1)", -1055);
        DoubleHeap x = with(ONE);
        due("a ninth rule", law(x, 0, EIGHT + ";f(1=1)"), -4056);
        due("the one before stays", x.count(10), 1);
    }

    private static void seventhOpen() {
        sentence(TERMS, "5 a seventh of ( [ ! that are open in one another, at it");
        // Behind the ( of the rule five more, each a ! or a (, then each a [; a sixth is too much.
        for (int tests = 0; tests <= 6; tests++) {
            for (int kinds = 0; kinds < 1 << tests; kinds++) {
                if (tests <= 5) {
                    lawText(nested(tests, kinds, 5 - tests), 1);
                }
                lawText(nested(tests, kinds, 6 - tests), -5007);
            }
        }
        // It is asked at once, whatever comes behind; but what can't stand there is that.
        lawText("f(((((((", -5007);
        lawText("f((((((!?", -5007);
        lawText("f(((((([", -5007);
        lawText("f((((((1=(", -1009);
        lawText("f((((((1=!", -1009);
        lawText("f((((((1=[", -5009);
        sentence(TERMS, "the ( of the RULE counts");
        lawText("f((((((1=1))))))", 1);
        lawText("f(((((((1=1)))))))", -5007);
        sentence(TERMS, "a ! is open till its TEST ends");
        lawText("f(!!!!!1=1&!!!!!1=1|!!!!!1=1)", 1);
        lawText("f(!!!!!1=1&!!!!!!1=1)", -5016);
        lawText("f(!!!!1=[1])", 1);
        lawText("f(!!!!1=[[1]])", -5009);
        lawText("f(!!!!([1]=1))", -5007);
        lawText("f(!!!([1]=1))", 1);
        lawText("f(!!!(1=1&[[1]]=1))", -5011);
        lawText("f(!!!!1=1&[[[[[1]]]]]=1)", 1);
        sentence(TERMS, "the E of a RULE stands ahead of it");
        lawText("m[[[[[[1]]]]]](1=1)", 1);
        lawText("m[[[[[[[1]]]]]]](1=1)", -5007);
        lawText("m[[[[[[1]]]]]]((((((1=1))))))", 1);
        lawText("m[[[[[[(", -1007);
        lawText("m[[[[[[!", -1007);
        // Those that are closed do not count.
        lawText("m[1]+[1]+[1]+[1]+[1]+[1]+[1]+[1]([1]=[1]&(1=1)&(1=1)&(1=1)&(1=1)&(1=1)&(1=1))", 1);
        lawText("f(1=1);f((((((1=1))))))", 1 + 1);
        most("m[[[[[[9-8]-7]-6]-5]-4]+40](1=1)", 19);
        most("m2+3*[2+3*[2+3*[2+3*[2+3*[2+3*[0-1]]]]]](1=1)", 0);
        most("m40+2-3*[2-3*[2-3*[2-3*[2-3*[2-3*[1]]]]]](1=1)", 40);
        most("m5(40-2*[40-2*[40-2*[40-2*[40-2*13]]]]=24);m3(1=1)", 5);
    }

    /** So many ! or ( (a bit of kinds set: a ! ), then so many [, in the ( of a rule. */
    private static String nested(int tests, int kinds, int brackets) {
        StringBuilder open = new StringBuilder("f(");
        StringBuilder close = new StringBuilder(")");
        for (int i = 0; i < tests; i++) {
            boolean not = (kinds >> i & 1) != 0;
            open.append(not ? '!' : '(');
            close.insert(0, not ? "" : ")");
        }
        return open + repeated("[", brackets, "") + "1" + repeated("]", brackets, "") + "=1" + close;
    }

    private static void notTakenBack() {
        sentence(TERMS, "A call that is refused (NONE, false) changes nothing but the tape, where it is told");
        DoubleHeap x = with(ONE);
        due("a fault empties the tape", law(x, 0, "?"), -1000);
        due("a fault empties the tape", x.count(6), 0);
        due("a fault of a game, too", game(x, 0, "?"), -1000);
        due("a fault of a game, too", x.count(6), 0);
        feed(x, 1);
        due("NONE leaves it", x.law(0, 161), -1);
        due("NONE leaves it", x.game(0, 131), -1);
        due("NONE leaves it", x.check(0, 41), -2);
        due("NONE leaves it", x.count(6), 20);
    }

    // ---- games ----

    private static void gameNumbers() {
        sentence(TERMS, "GAMES 0 to 8 that were played: told or not");
        DoubleHeap x = with(ONE);
        due("game 0", game(x, 0, "5:1"), 1);
        due("game 8", game(x, 8, "5:1,1"), 2);
        due("game 9", game(x, 9, "5:1"), -1);
        due("game -1", x.game(-1, 3), -1);
        due("0 and 8 are told", x.count(5), 0b100000001);
        due("game 0", x.judged(0, 0, 0, 3), 1);
        due("game 8", x.judged(8, 0, 1, 3), 1);
        due("game 1 is not told", x.judged(1, 0, 0, 3), -1);
        due("game 7 is not told", x.count(27), -1);
    }

    private static void gameBytes() {
        sentence(TERMS, "each a TEXT of at most 130 bytes");
        // The longest game has 122 bytes.
        gameText("40:" + repeated("01", 40, ","), 40);
        DoubleHeap x = new DoubleHeap();
        feed(x, new int[140]);
        due("131 bytes", x.game(0, 131), -1);
        due("the tape stays", x.count(6), 140);
        due("130 bytes", x.game(0, 130), -1000);
        due("the tape is empty", x.count(6), 0);
        gameText("40:" + repeated("01", 40, ",") + "," + repeated("0", 7, ""), -4123);
        gameText("40:" + repeated("01", 40, ",") + "," + repeated("0", 8, ""), -1);
    }

    private static void gameTapeStays() {
        sentence("Promise 4", "GAME g by the first n bytes of the tape (1 to 130; empty then)");
        DoubleHeap x = new DoubleHeap();
        due("an empty tape", x.game(0, 1), -1);
        feed(x, "5:1,1".chars().toArray());
        due("no bytes", x.game(0, 0), -1);
        due("less than none", x.game(0, -1), -1);
        due("more than it has", x.game(0, 21), -1);
        due("no such game", x.game(9, 5), -1);
        due("the tape stays", x.count(6), 20);
        due("no game is told", x.count(5), 0);
        due("the first three bytes", x.game(0, 3), 1);
        due("the others are gone", x.count(6), 0);
        // A digit behind the first bytes belongs to no number of theirs.
        feed(x, "9:34".chars().toArray());
        due("the first three bytes", x.game(0, 3), 1);
        law(x, 0, THREE);
        due("3 was taken, not 34", x.judged(0, 0, 0, 0), 0);
        feed(x, "40:1".chars().toArray());
        due("the first byte", x.game(1, 1), -1001);
        feed(x, "12:1".chars().toArray());
        due("the first two bytes", x.game(1, 2), -1002);
        feed(x, "5:1,1".chars().toArray());
        due("one byte", x.game(0, 1), -1001);
        due("the tape is empty", x.count(6), 0);
        due("all twenty bytes", game(x, 0, "40:1,1,1,1,1,1,1,1,1"), 9);
    }

    private static void gameFaultStays() {
        sentence("Promise 4", "in place of the one before: how many TAKES; a FAULT; NONE: as above");
        DoubleHeap x = with(ONE);
        due("told", game(x, 3, "5:1,2"), 2);
        due("a fault behind takes", game(x, 3, "9:1,1,1,"), -1008);
        due("a fault in a take", game(x, 3, "9:1,1,9"), -3006);
        due("a fault in the heap", game(x, 3, "41:1"), -2000);
        due("the one before stays", x.count(23), 2);
        due("the one before stays", x.judged(3, 0, 1, 0), 1);
        due("one that was not told is not", game(x, 4, "9:1,"), -1004);
        due("one that was not told is not", x.count(24), -1);
        due("in its place", game(x, 3, "7:"), 0);
        due("in its place", x.count(23), 0);
        due("in its place", x.judged(3, 0, 1, 0), 0);
    }

    private static void gameHeap() {
        sentence(TERMS, "a number (the HEAP, 0 to 40)");
        gameText("0:", 0);
        gameText("00:", 0);
        gameText("1:1", 1);
        gameText("39:39", 1);
        gameText("40:40", 1);
        gameText("41:1", -2000);
        gameText("99:1", -2000);
    }

    private static void gameColon() {
        sentence(TERMS, "a : (58), then TAKES with a , between two (40 at most; none or some)");
        gameText("5;1", -1001);
        gameText("5,1", -1001);
        gameText("51", -2000);
        gameText("5", -1001);
        gameText("5:", 0);
        gameText("5:1", 1);
        gameText("5:1,1", 2);
        gameText("5::1", -1002);
        gameText("5:1:1", -1003);
        gameText("5:1;1", -1003);
        gameText("5:1-1", -1003);
        gameText("5:1,", -1004);
        gameText("5:,", -1002);
        gameText("5:,1", -1002);
        gameText("5:1,,1", -1004);
        gameText(":1", -1000);
    }

    private static void gameTakes() {
        sentence(TERMS, "(40 at most; none or some)");
        gameText("40:" + ones(39), 39);
        gameText("40:" + ones(40), 40);
        gameText("40:" + ones(41), -4083);
    }

    private static void gameDigits() {
        sentence(TERMS, "all numbers of one or two digits");
        gameText("5:5", 1);
        gameText("05:05", 1);
        gameText("005:5", -1002);
        gameText("05:005", -3003);
        gameText("40:010", -1005);
        gameText("40:100", -1005);
        gameText("400:1", -1002);
        gameText("5:1,001", -3004);
        gameText("5:1,011", -1006);
    }

    /** Behind the start of a game each of the 256 bytes, and the end. */
    private static void stands(String start, String signs, int ended) {
        int place = start.length();
        if (place > 0) {
            gameText(start, ended);
        }
        for (int b = 0; b < 256; b++) {
            if (signs.indexOf(b) < 0) {
                gameText(start + (char) b, -1000 - place);
            } else if (b == ',' || b == ':') {
                gameText(start + (char) b, b == ':' ? 0 : -1000 - (place + 1));
            }
        }
    }

    private static void gameWhatCanStand() {
        sentence(TERMS, "FAULTS: 1 what can't stand there (the end, too)");
        stands("", DIGITS, -1000);
        stands("4", DIGITS + ":", -1001);
        stands("12", ":", -1002);
        stands("04", ":", -1002);
        stands("12:", DIGITS, 0);
        stands("12:1", DIGITS + ",", 1);
        stands("12:10", ",", 1);
        stands("12:01", ",", 1);
        stands("12:1,", DIGITS, -1005);
        stands("12:1,2", DIGITS + ",", 2);
        stands("12:10,02", ",", 2);
    }

    private static void heapAboveForty() {
        sentence(TERMS, "2 a HEAP above 40, at its first digit (asked when its digits end, behind two at the latest)");
        gameText("40:", 0);
        gameText("41:", -2000);
        gameText("41", -2000);
        gameText("41?", -2000);
        gameText("411", -2000);
        gameText("99", -2000);
        gameText("9", -1001);
        gameText("9?", -1001);
        gameText("40", -1002);
        gameText("40?", -1002);
        gameText("401", -1002);
    }

    private static void takeOfTooMany() {
        sentence(TERMS, "3 a TAKE of 0 or of more than is there, at its first digit (so, too)");
        gameText("7:0", -3002);
        gameText("7:1", 1);
        gameText("7:7", 1);
        gameText("7:8", -3002);
        gameText("7:00", -3002);
        gameText("7:07", 1);
        gameText("7:08", -3002);
        gameText("7:70", -3002);
        gameText("0:0", -3002);
        gameText("0:1", -3002);
        gameText("7:3,4", 2);
        gameText("7:3,5", -3004);
        gameText("7:3,4,1", -3006);
        gameText("7:3,4,0", -3006);
        gameText("7:0?", -3002);
        gameText("7:8?", -3002);
        gameText("7:08?", -3002);
        gameText("7:080", -3002);
        gameText("20:020", -1005);
        gameText("7:7?", -1003);
        gameText("20:2", 1);
        gameText("20:20", 1);
        gameText("20:21", -3003);
        gameText("20:2?", -1004);
        // What is left counts, not what was there at first.
        gameText("40:39,1", 2);
        gameText("40:39,2", -3006);
    }

    private static void fortyFirstTake() {
        sentence(TERMS, "4 a 41st TAKE, at its first digit (if that can stand there)");
        String forty = "40:" + ones(40);
        gameText(forty, 40);
        gameText(forty + ",", -1083);
        gameText(forty + ",1", -4083);
        gameText(forty + ",0", -4083);
        gameText(forty + ",99", -4083);
        gameText(forty + ",1?", -4083);
        gameText(forty + ",?", -1083);
        gameText(forty + ",,", -1083);
        gameText(forty + "1", -3081);
        gameText("39:" + ones(40), -3081);
        DoubleHeap x = new DoubleHeap();
        game(x, 0, "40:" + ones(39));
        due("a 41st take", game(x, 0, forty + ",1"), -4083);
        due("the one before stays", x.count(20), 39);
    }

    private static void byNoLaw() {
        sentence(TERMS, "(By no LAW; the first LAST is 0.)");
        DoubleHeap x = new DoubleHeap();
        due("no law is told", game(x, 0, "5:5"), 1);
        law(x, 0, NO_TAKE);
        due("no take is one by the law", game(x, 1, "5:4,1"), 2);
        due("both were none", x.judged(1, 0, 0, 0) + x.judged(1, 0, 1, 0), 2);
        law(x, 1, "mn(t=0)");
        due("the first take is behind 0", x.judged(1, 1, 0, 0), 0);
        due("the second is not", x.judged(1, 1, 1, 0), 1);
    }
}
