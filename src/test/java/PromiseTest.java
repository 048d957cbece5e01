/** For each promise of the document: ordinary inputs, the edges that it names, wrong inputs. */
public final class PromiseTest extends Bench {
    public static void main(String[] args) {
        newObject();
        feeds();
        lawFaults();
        lawMeaning();
        lawStays();
        games();
        states();
        shy();
        takes();
        lostNumbers();
        endsAndLongest();
        sums();
        twoHeaps();
        growing();
        each();
        ones();
        passes();
        hope();
        pattern();
        simple();
        unlike();
        judged();
        fromWhenAndThought();
        chance();
        stove();
        sheAndChild();
        back();
        against();
        seedKeepUndo();
        check();
        count();
        end();
    }

    private static void newObject() {
        at("promise 1");
        DoubleHeap x = new DoubleHeap();
        for (int what = 0; what < 7; what++) {
            due("count " + what, x.count(what), 0);
        }
        due("count 7", x.count(7), 1);
        for (int l = 0; l < 4; l++) {
            due("rules of " + l, x.count(10 + l), -1);
            due("lost of " + l, x.lost(l), -1);
        }
        for (int g = 0; g < 9; g++) {
            due("takes of " + g, x.count(20 + g), -1);
        }
        due("undo", x.undo(), false);
        due("back", x.back(), -2);
        due("thought", x.thought(0), 0);
    }

    private static void feeds() {
        at("promise 2");
        DoubleHeap x = new DoubleHeap();
        for (int i = 1; i <= 13; i++) {
            due("feed " + i, x.feed(0, 0, 0, 0, 0), 20 * i);
        }
        due("feed of too much", x.feed(0, 0, 0, 0, 0), -1);
        due("count 6", x.count(6), 260);
        DoubleHeap y = with(ONE);
        y.feed(0x02040608, 0x0A0C0E10, 0x12141618, 0x1A1C1E20, 0x22242628);
        due("the highest byte first", y.check(0, 20), -1);
        y.feed(0x02040608, 0x0A0C0E10, 0x12141618, 0x1A1C1E20, 0x222426FF);
        due("a byte has no sign", y.check(0, 20), 19);
    }

    private static void lawFaults() {
        at("promise 3");
        lawText("f(1=1)", 1);
        lawText("m0(0=0);f(x=1);m1(1>0)", 3);
        lawText("m1(1=1);", -1008);
        lawText(";", -1000);
        lawText("M1(1=1)", -1000);
        lawText("m1(1=1)f(1=1)", -1007);
        lawText("m1 (1=1)", -1002);
        lawText("m-1(1=1)", -1001);
        lawText("m1+(1=1)", -1003);
        lawText("m1(1)", -1004);
        lawText("m1(1=1=1)", -1006);
        lawText("m1(1==1)", -1005);
        lawText("m1()", -1003);
        lawText("m1((1=1)", -1008);
        lawText("m1(1=1&)", -1007);
        lawText("m1(|1=1)", -1003);
        lawText("m1(1=1&|1=1)", -1007);
        lawText("m1((1)=1)", -1005);
        lawText("m1([1]=1)", 1);
        lawText("m1([1=1])", -1005);
        lawText("m[1(1=1)", -1003);
        lawText("m[](1=1)", -1002);
        lawText("m(1)(1=1)", -1001);
        lawText("mx(!!1=1)", 1);
        lawText("mnt(1=1)", -1002);
        lawText("m1n(1=1)", -1002);
        lawText("f", -1001);
        lawText("f(", -1002);
        lawText("m99999(1=00001)", 1);
        lawText("m000000(1=1)", -2006);
        lawText("m1(1=123456)", -2010);
        lawText("m" + (char) 0x8D + "(1=1)", -1001);
        // Brackets, and !, open in one another: six at most.
        lawText("m[[[[[[1]]]]]](1=1)", 1);
        lawText("m[[[[[[[1]]]]]]](1=1)", -5007);
        lawText("f(!!!!!1=1)", 1);
        lawText("f(!!!!!!1=1)", -5007);
        lawText("f((((([1]=1)))))", 1);
        lawText("f((((([[1]]=1)))))", -5007);
        lawText("f((((((1=1))))))", 1);
        lawText("f(((((([1]=1))))))", -5007);
        lawText("f(!(!(!1=1)&!1=1)&!(!(!1=1)))", 1);
        lawText("f(!!!!1=[1])", 1);
        lawText("f(!!!!1=[[1]])", -5009);
        lawText("f(!!!!1=1&[[[[[1]]]]]=1)", 1);
        lawText("f(((((((", -5007);
        lawText("f(((((()", -1007);
        lawText("m[[[[[[(", -1007);
        // Eight rules at most.
        String eight = "f(1=1);f(1=1);f(1=1);f(1=1);f(1=1);f(1=1);f(1=1);f(1=1)";
        lawText(eight, 8);
        lawText(eight + ";", -1056);
        lawText(eight + ";f", -4056);
        lawText(eight + ";f(1=1)", -4056);
        lawText(eight + ";g(1=1)", -1056);
        lawText(eight + "f", -1055);
    }

    private static void lawMeaning() {
        at("promise 3");
        most("m41(1=1)", 40);
        most("m0-1(1=1)", 0);
        most("m5(n<40);m6(n>40);m7(n=40);m8(1=1)", 7);
        most("m5(n<40)", 0);
        most("f(1=0)", 0);
        most("m7-2-1(1=1)", 4);
        most("m2+3*4(1=1)", 14);
        most("m[2+3]*4(1=1)", 20);
        most("m70/2/5(1=1)", 7);
        most("m7/2*2(1=1)", 6);
        most("m2*7/2(1=1)", 7);
        most("m7%4*2(1=1)", 6);
        most("m[0-7]/2+10(1=1)", 7);
        most("m[0-7]%3+5(1=1)", 4);
        most("mn/3(1=1)", 13);
        most("mt+3(1=1)", 3);
        most("m5+x(1=1)", 5);
        most("m5(x=0)", 5);
        most("m99999*99999(1=1)", 40);
        most("m99999*99999*2(1=1)", 0);
        most("m65536*65536+9(1=1)", 9);
        most("m32768*65536/[0-1]/[0-1]/65536+32773(1=1)", 5);
        most("m32768*65536%[0-1]+3(1=1)", 3);
        // Refused: the whole C does not hold, the whole E is 0.
        most("m5(1/0=0);m3(1=1)", 3);
        most("m5(1%0=0);m3(1=1)", 3);
        most("m5(!1/0=0);m3(1=1)", 3);
        most("m5(!(1/0=0));m3(1=1)", 3);
        most("m5(1/0=0|1=1);m3(1=1)", 3);
        most("m5((1/0=0)|1=1);m3(1=1)", 3);
        most("m5/t(1=1);m3(1=1)", 0);
        most("m9+[5%t](1=1);m3(1=1)", 0);
        // As much is asked as matters.
        most("m5(1=1|1/0=0);m3(1=1)", 5);
        most("m5(1=0&1/0=0|1=1);m3(1=1)", 5);
        most("m5(1=0&1/0=0);m3(1=1)", 3);
        most("m5((1=1|1/0=0)&1=1);m3(1=1)", 5);
        most("m5(!(1=0&1/0=0));m3(1=1)", 5);
        most("m5(1=0|1=1&1=0|1=1);m3(1=1)", 5);
        most("m5(1=1&(1=0|1=0)|1=0);m3(1=1)", 3);
        most("m5(1=1&1=1&1=1&!1=0);m3(1=1)", 5);
        most("m5(!1=1|1<0|1>1);m3(1=1)", 3);
        most("m5(!!1=1);m3(1=1)", 5);
        // ! reaches no farther than its TEST.
        most("m5(!1=0&1=0);m3(1=1)", 3);
        most("m5(!1=1|1=1);m3(1=1)", 5);
        due("forbidden by any", with("m9(1=1);f(x=2);f(x>6)").takes(0, 8, 0, 0), 0b1111010);
        due("forbidden by heap and last", with("f(n-x=t);m9(1=1)").takes(0, 8, 3, 0), 0b111011110);
        due("forbidding refused", with("m3(1=1);f(4/[x-2]=4)").takes(0, 8, 0, 0), 0b110);
    }

    private static void lawStays() {
        at("promise 3");
        DoubleHeap x = with(ONE, THREE);
        feed(x, new int[20]);
        due("no such law", x.law(4, 1), -1);
        due("no such law", x.law(-1, 1), -1);
        due("no bytes", x.law(0, 0), -1);
        due("less than none", x.law(0, -5), -1);
        due("more than there are", x.law(0, 21), -1);
        due("the tape stays", x.count(6), 20);
        due("the law stays", x.lost(0), with(ONE).lost(0));
        due("a fault", x.law(1, 20), -1000);
        due("the tape is empty", x.count(6), 0);
        due("the law stays", x.state(1, 9, 0, 4), 3);
        due("the law stays told", x.count(4), 3);
        due("in its place", law(x, 1, "m2(1=1);f(1=0)"), 2);
        due("in its place", x.state(1, 9, 0, 4), 2);
        due("in its place", x.state(1, 9, 0, 0), 0);
        for (int i = 0; i < 13; i++) {
            x.feed(0x66283D3D, 0, 0, 0, 0);
        }
        due("161 bytes", x.law(0, 161), -1);
        due("160 bytes", x.law(0, 160), -1002);
        due("all of the tape is gone", x.count(6), 0);
        StringBuilder longest = new StringBuilder("m1");
        while (longest.length() < 154) {
            longest.append("+0");
        }
        longest.append("(1=1)");
        due("a text of 159", law(x, 2, longest.toString()), 1);
        due("a text of 160", law(x, 3, longest.insert(1, '0').toString()), 1);
        due("a text of 160", x.state(3, 9, 0, 4), 1);
    }

    private static void games() {
        at("promise 4");
        gameText("5:", 0);
        gameText("40:", 0);
        gameText("00:", 0);
        gameText("07:1", 1);
        gameText("7:07", 1);
        gameText("7:3,4", 2);
        gameText("12:10,1,1", 3);
        gameText("", -1);
        gameText(":", -1000);
        gameText("41", -2000);
        gameText("99:1", -2000);
        gameText("411", -2000);
        gameText("401", -1002);
        gameText("4", -1001);
        gameText("40", -1002);
        gameText("4,", -1001);
        gameText("4::", -1002);
        gameText("4:x", -1002);
        gameText("4:,", -1002);
        gameText("4: 1", -1002);
        gameText("4:1:", -1003);
        gameText("4:1,,", -1004);
        gameText("4:1,", -1004);
        gameText("4:00", -3002);
        gameText("4:05", -3002);
        gameText("4:5x", -3002);
        gameText("9:1x", -1003);
        gameText("40:100", -1005);
        gameText("20:210", -3003);
        gameText("9:4,5,1", -3006);
        gameText("9:4,5,0", -3006);
        StringBuilder forty = new StringBuilder("40:01");
        for (int i = 1; i < 40; i++) {
            forty.append(",01");
        }
        gameText(forty.toString(), 40);
        gameText(forty + ",", -1123);
        gameText(forty + ",1", -4123);
        gameText(forty + ",0", -4123);
        gameText(forty + ",,", -1123);
        DoubleHeap x = new DoubleHeap();
        due("told", game(x, 2, "9:4,1"), 2);
        feed(x, new int[20]);
        due("no such game", x.game(9, 1), -1);
        due("no such game", x.game(-1, 1), -1);
        due("no bytes", x.game(0, 0), -1);
        due("more than there are", x.game(0, 21), -1);
        due("the tape stays", x.count(6), 20);
        due("a fault", x.game(2, 4), -1000);
        due("the tape is empty", x.count(6), 0);
        due("the game stays", x.count(22), 2);
        due("in its place", game(x, 2, "9:4,1,1"), 3);
        due("in its place", x.count(22), 3);
        feed(x, new int[140]);
        due("131 bytes", x.game(2, 131), -1);
        due("130 bytes", x.game(2, 130), -1000);
    }

    private static void states() {
        at("promise 5");
        DoubleHeap x = with(DOUBLE, THREE, NO_TAKE, ODD);
        due("lost at 8", x.state(0, 8, 0, 0), 0);
        due("won at 9", x.state(0, 9, 0, 0), 1);
        due("least at 9", x.state(0, 9, 0, 1), 1);
        due("nothing good", x.state(0, 8, 0, 1), -2);
        due("nothing good", x.state(0, 8, 0, 2), -2);
        due("nothing shy", x.state(0, 8, 0, 6), -2);
        due("how many good", x.state(0, 8, 0, 3), 0);
        due("how many", x.state(0, 8, 0, 4), 7);
        // From 7 with 4 taken last: 2 leaves 5, 7 leaves nothing.
        due("least of two", x.state(0, 7, 4, 1), 2);
        due("greatest of two", x.state(0, 7, 4, 2), 7);
        due("two of them", x.state(0, 7, 4, 3), 2);
        due("length by the quick one", x.state(0, 7, 4, 5), 1);
        due("threes: multiples of 4 are lost", x.state(1, 40, 17, 0), 0);
        due("threes: the length", x.state(1, 40, 0, 5), 20);
        due("threes: the length", x.state(1, 7, 0, 5), 3);
        due("nobody takes", x.state(2, 40, 40, 0), 0);
        due("nobody takes", x.state(2, 40, 40, 5), 0);
        due("nothing there", x.state(1, 0, 40, 0), 0);
        due("odd ones: any odd heap is won at once", x.state(3, 39, 0, 5), 1);
        due("odd ones: all are good", x.state(3, 39, 0, 3), 20);
        due("odd ones: the greatest", x.state(3, 39, 0, 2), 39);
        due("odd ones: lost as late as can be", x.state(3, 40, 0, 5), 2);
        due("no such law", x.state(4, 1, 1, 0), -1);
        due("no such law", x.state(-1, 1, 1, 0), -1);
        due("no such heap", x.state(0, 41, 1, 0), -1);
        due("no such heap", x.state(0, -1, 1, 0), -1);
        due("no such last", x.state(0, 1, 41, 0), -1);
        due("no such last", x.state(0, 1, -1, 0), -1);
        due("no such what", x.state(0, 1, 1, 7), -1);
        due("no such what", x.state(0, 1, 1, -1), -1);
        due("not told", with(DOUBLE).state(1, 1, 1, 0), -1);
    }

    private static void shy() {
        at("promise 5");
        // By law 0 all odd takes from 5 are good: 1, 3, 5.
        DoubleHeap x = with(ODD);
        due("alone: the least", x.state(0, 5, 0, 6), 1);
        law(x, 1, ONE);
        due("1 is good by law 1, too", x.state(0, 5, 0, 6), 3);
        law(x, 3, "m3(1=1);f(x<3)");
        due("3 is good by law 3, too", x.state(0, 5, 0, 6), 5);
        law(x, 2, "m5(1=1);f(x<5)");
        due("one law each: the least", x.state(0, 5, 0, 6), 1);
        law(x, 1, NO_TAKE);
        due("1 is good by none", x.state(0, 5, 0, 6), 1);
        law(x, 3, "m1(1=1)");
        law(x, 1, "m1(1=1)");
        law(x, 2, "m3(1=1);f(x<3)");
        due("1 by two, 3 by one", x.state(0, 5, 0, 6), 5);
    }

    private static void takes() {
        at("promise 6");
        DoubleHeap x = with(ALL, THREE, NO_TAKE, ODD);
        due("all", x.takes(0, 40, 0, 0), (1L << 41) - 2);
        due("all", x.takes(0, 3, 40, 0), 0b1110);
        due("good", x.takes(1, 6, 0, 1), 0b100);
        due("none good", x.takes(1, 8, 0, 1), 0);
        due("rows of 40 are 2 to the 39th", x.takes(0, 40, 0, 2), 1L << 39);
        due("half of them are won", x.takes(0, 40, 0, 3), 1L << 38);
        due("rows of 1", x.takes(0, 1, 0, 2), 1);
        due("the only one is won", x.takes(0, 1, 0, 3), 1);
        due("no row but the empty one", x.takes(2, 9, 9, 2), 1);
        due("it is lost", x.takes(2, 9, 9, 3), 0);
        due("threes", x.takes(1, 4, 0, 2), 7);
        // Odd many: 1 2 1, 1 1 2, 2 1 1; not 4.
        due("threes won", x.takes(1, 4, 0, 3), 3);
        due("odd ones to 40: all even in number", x.takes(3, 40, 0, 3), 0);
        due("odd ones to 39: all odd in number", x.takes(3, 39, 0, 3), x.takes(3, 39, 0, 2));
        due("no such law", x.takes(4, 1, 1, 0), -1);
        due("no such heap", x.takes(0, 41, 1, 0), -1);
        due("no such last", x.takes(0, 1, 41, 0), -1);
        due("no such what", x.takes(0, 1, 1, 4), -1);
        due("no such what", x.takes(0, 1, 1, -1), -1);
    }

    private static void lostNumbers() {
        at("promise 7");
        DoubleHeap x = with(DOUBLE, ONE, NO_TAKE, ALL);
        due("double", x.lost(0), 1L << 1 | 1L << 2 | 1L << 3 | 1L << 5 | 1L << 8 | 1L << 13 | 1L << 21 | 1L << 34);
        due("ones: the even ones", x.lost(1), EVEN_HEAPS);
        due("all heaps", x.lost(2), (1L << 41) - 2);
        due("no heap", x.lost(3), 0);
        due("no such law", x.lost(4), -1);
        due("no such law", x.lost(-1), -1);
        at("promise 8");
        due("the first", x.lostAt(1, 0), 2);
        due("the last", x.lostAt(1, 19), 40);
        due("not so many", x.lostAt(1, 20), -2);
        due("the last of all", x.lostAt(2, 39), 40);
        due("not so many", x.lostAt(2, 40), -2);
        due("not so many", x.lostAt(2, Integer.MAX_VALUE), -2);
        due("not so many", x.lostAt(3, 0), -2);
        due("no such place", x.lostAt(0, -1), -1);
        due("no such law", x.lostAt(4, 0), -1);
    }

    private static void endsAndLongest() {
        at("promise 9");
        DoubleHeap x = with(THREE, ODD, NO_TAKE, "m3(1=1);f(n-x=2)");
        due("ends of 10", x.ends(0, 10, 0, 100), 4);
        due("least row 1 3 3 3", x.ends(0, 10, 0, 0), 1);
        due("least row 1 3 3 3", x.ends(0, 10, 0, 1), 3);
        due("least row 1 3 3 3", x.ends(0, 10, 0, 3), 3);
        due("not so many", x.ends(0, 10, 0, 4), -4);
        due("of 8: 2 3 3", x.ends(0, 8, 0, 0), 2);
        due("two odd ones: 1 39", x.ends(1, 40, 0, 0), 1);
        due("two odd ones: 1 39", x.ends(1, 40, 0, 1), 39);
        due("over at once", x.ends(2, 40, 0, 100), 0);
        due("over at once", x.ends(2, 40, 0, 0), -4);
        due("not so many", x.ends(0, 10, 0, 39), -4);
        due("no such what", x.ends(0, 10, 0, 40), -1);
        due("no such what", x.ends(0, 10, 0, 99), -1);
        due("no such what", x.ends(0, 10, 0, 101), -1);
        due("no such what", x.ends(0, 10, 0, -1), -1);
        due("no such heap", x.ends(0, 41, 0, 100), -1);
        due("no such last", x.ends(0, 10, 41, 100), -1);
        due("no such law", x.ends(4, 10, 0, 100), -1);
        DoubleHeap y = with("m2(1=1);f(n-x=4&x=1);f(n=4)");
        due("over with some left: 6 to 4", y.ends(0, 6, 0, 100), 1);
        due("over with some left: 6 to 4", y.ends(0, 6, 0, 0), 2);
        at("promise 20");
        due("longest: ones", x.longest(0, 40, 0, 100), 40);
        due("longest: ones", x.longest(0, 40, 0, 39), 1);
        due("longest: nothing at all", x.longest(2, 40, 0, 100), 0);
        // 2 must never be left: from 4 only 1 and 3 (2 would leave 2); 4: 1, then 3 must go at once
        // or by 2 (leaves 1): 1 2 1.
        due("no two left", x.longest(3, 4, 0, 100), 3);
        due("no two left", x.longest(3, 4, 0, 0), 1);
        due("no two left", x.longest(3, 4, 0, 1), 2);
        due("no two left", x.longest(3, 4, 0, 2), 1);
        // From 6: 1 1 1 2 1 alone has five takes.
        due("no two left of 6", x.longest(3, 6, 0, 100), 5);
        due("greatest row", x.longest(3, 6, 0, 3), 2);
        DoubleHeap z = with("m3(t=0);m1(1=1);f(n=9&x=1)", "m2(1=1);f(n%3=2)");
        due("of 9: 2, then seven times 1", z.longest(0, 9, 0, 100), 8);
        due("of 9: 2, then seven times 1", z.longest(0, 9, 0, 0), 2);
        // From 4 by law 1: 1 leaves 3 (then 2 1 or 1 and it is over), 2 leaves 2 (over).
        due("greatest of the longest", z.longest(1, 4, 0, 100), 3);
        due("greatest of the longest", z.longest(1, 4, 0, 1), 2);
        due("not so many", x.longest(0, 5, 0, 5), -4);
        due("no such what", x.longest(0, 10, 0, 40), -1);
        due("no such what", x.longest(0, 10, 0, -1), -1);
        due("no such heap", x.longest(0, -1, 0, 100), -1);
        due("no such last", x.longest(0, 10, -1, 100), -1);
        due("no such law", x.longest(-1, 10, 0, 100), -1);
    }

    private static void sums() {
        at("promise 10");
        DoubleHeap x = with(ONE, NO_TAKE, ALL, DOUBLE);
        // Even numbers, none beside each other: 12 = 12, 10+2, 8+4 (6+... 6 is beside 4 and 8).
        due("ways to 12", x.sums(0, 12, 0), 3);
        due("odd ones have none", x.sums(0, 13, 0), 0);
        due("odd ones have none", x.sums(0, 13, 1), -2);
        due("12 itself", x.sums(0, 12, 1), 1);
        due("ways to 0", x.sums(2, 0, 0), 1);
        due("ways to 1", x.sums(2, 1, 0), 0);
        due("of 1 to 40, 9 = 9, 8+1, 7+2, 6+3, 5+3+1", x.sums(1, 9, 0), 5);
        due("200 at most", x.sums(1, 200, 1), 6);
        due("no such number", x.sums(0, 201, 0), -1);
        due("no such number", x.sums(0, -1, 0), -1);
        due("no such what", x.sums(0, 1, 2), -1);
        due("no such what", x.sums(0, 1, -1), -1);
        due("no such law", x.sums(4, 1, 0), -1);
        at("promise 11");
        due("12 itself", x.sum(0, 12), 1L << 12);
        due("nothing", x.sum(0, 0), 0);
        due("none", x.sum(0, 13), -2);
        // 40 + 38 + 36 + 34 + 32 = 180, and 20 more.
        due("the greatest first of 200", x.sum(1, 200), 1L << 40 | 1L << 38 | 1L << 36 | 1L << 34 | 1L << 32 | 1L << 20);
        due("41 = 40 + 1", x.sum(1, 41), 1L << 40 | 1L << 1);
        due("79 can't have 40 and 39", x.sum(1, 79), 1L << 40 | 1L << 38 | 1L << 1);
        due("52 of the double law", x.sum(3, 52), 1L << 34 | 1L << 13 | 1L << 5);
        due("no such number", x.sum(0, 201), -1);
        due("no such number", x.sum(0, -1), -1);
        due("no such law", x.sum(-1, 1), -1);
    }

    private static void twoHeaps() {
        at("promise 12");
        DoubleHeap x = with(ALL, THREE, "m2(t=0);mt(1=1)", ONE);
        due("like heaps are lost", x.two(0, 20, 20, 0, 0), 0);
        due("like heaps are lost", x.two(0, 20, 20, 40, 1), -2);
        due("to make them like", x.two(0, 20, 13, 0, 1), 7);
        due("to make them like, from the second", x.two(0, 3, 13, 0, 1), 110);
        due("won", x.two(0, 3, 13, 0, 0), 1);
        due("threes: 5 and 9 are like", x.two(1, 5, 9, 0, 0), 0);
        due("threes: 6 and 9", x.two(1, 6, 9, 0, 1), 1);
        // 7 and 8 by threes: 3 from the first leaves 4 and 8.
        due("threes: from the first first", x.two(1, 7, 8, 0, 1), 3);
        due("threes: from the first though the second would do, too", x.two(1, 5, 7, 0, 1), 2);
        due("none", x.two(0, 0, 0, 0, 0), 0);
        due("last is of both heaps", x.two(2, 1, 2, 1, 0), 1);
        due("last is of both heaps", x.two(2, 2, 2, 1, 0), 0);
        // By as much as was taken: 4 leaves 16.
        due("last 40", x.two(2, 20, 0, 40, 1), 4);
        due("ones: even in all is lost", x.two(3, 7, 9, 5, 0), 0);
        due("ones: odd in all is won from the first", x.two(3, 7, 8, 5, 1), 1);
        due("ones: nothing in the first", x.two(3, 0, 7, 5, 1), 101);
        due("no such heap", x.two(0, 21, 0, 0, 0), -1);
        due("no such heap", x.two(0, 0, 21, 0, 0), -1);
        due("no such heap", x.two(0, -1, 0, 0, 0), -1);
        due("no such heap", x.two(0, 0, -1, 0, 0), -1);
        due("no such last", x.two(0, 0, 0, 41, 0), -1);
        due("no such last", x.two(0, 0, 0, -1, 0), -1);
        due("no such what", x.two(0, 0, 0, 0, 2), -1);
        due("no such law", x.two(4, 0, 0, 0, 0), -1);
    }

    private static void growing() {
        at("promise 13");
        DoubleHeap x = with(ONE, ALL, "m2(1=1)", "m1(n>1)");
        due("one is taken", x.growing(0, 1, 0, 3, 0), 1);
        // 2 by one each, growing by one: 2 stays 2 for ever; who takes the 20th has won.
        due("behind 20 takes who is to take has lost", x.growing(0, 2, 0, 1, 0), 0);
        due("so by 3", x.growing(0, 40, 0, 3, 0), 0);
        due("by 0 it is the plain game", x.growing(0, 7, 0, 0, 0), 1);
        due("by 0 it is the plain game", x.growing(0, 8, 0, 0, 0), 0);
        due("by 0, but 20 takes at most", x.growing(0, 21, 0, 0, 0), 0);
        due("by 0, and 19 takes", x.growing(0, 19, 0, 0, 0), 1);
        due("all at once", x.growing(1, 40, 0, 2, 1), 40);
        // Two at most, growing by one: 3 less 1 is 3 again, less 2 is 2 (which the other takes).
        due("2 is taken", x.growing(2, 2, 0, 1, 1), 2);
        due("3 by 1 goes on to the 20th", x.growing(2, 3, 0, 1, 0), 0);
        due("4 less 2 and 1 more is 3: that is lost for the other only with an odd number left",
                x.growing(2, 4, 0, 1, 1), oracleOfTwoAtMost(4));
        // One may be taken of 40 alone.
        DoubleHeap y = with("m1(n=40)");
        due("40 at most are there: so it goes on to the 20th", y.growing(0, 40, 0, 2, 0), 0);
        due("40 again", y.growing(0, 40, 0, 1, 0), 0);
        due("39 are left", y.growing(0, 40, 0, 0, 1), 1);
        due("nothing comes to nothing", x.growing(3, 1, 0, 3, 0), 0);
        due("nobody takes", x.growing(3, 1, 5, 3, 1), -2);
        due("no such growth", x.growing(0, 1, 0, 4, 0), -1);
        due("no such growth", x.growing(0, 1, 0, -1, 0), -1);
        due("no such heap", x.growing(0, 41, 0, 0, 0), -1);
        due("no such last", x.growing(0, 1, 41, 0, 0), -1);
        due("no such what", x.growing(0, 1, 0, 0, 2), -1);
        due("no such law", x.growing(4, 1, 0, 0, 0), -1);
    }

    /** Two at most, growing by one: played out here once more. */
    private static int oracleOfTwoAtMost(int heap) {
        for (int x = 1; x <= 2; x++) {
            if (!wonTwoAtMost(heap - x + 1, 1)) {
                return x;
            }
        }
        return -2;
    }

    private static boolean wonTwoAtMost(int heap, int taken) {
        if (taken == 20) {
            return false;
        }
        for (int x = 1; x <= 2 && x <= heap; x++) {
            int left = heap == x ? 0 : Math.min(40, heap - x + 1);
            if (!wonTwoAtMost(left, taken + 1)) {
                return true;
            }
        }
        return false;
    }

    private static void each() {
        at("promise 14");
        DoubleHeap x = with(ONE, "m2(1=1)", NO_TAKE, "m3(1=1);f(x=1)");
        due("against who never takes", x.each(0, 2, 9, 0, 0), 1);
        due("who never takes", x.each(2, 0, 9, 0, 0), 0);
        due("the like law", x.each(1, 1, 9, 0, 0), 0);
        due("the like law", x.each(1, 1, 10, 0, 1), 1);
        // Two at most against one: 2 is taken; of 3 and 4 one, the other leaves 1 or 2.
        due("who may take more", x.each(1, 0, 2, 0, 1), 2);
        due("who may take more", x.each(1, 0, 3, 0, 1), 1);
        due("who may take more", x.each(1, 0, 4, 0, 1), 1);
        due("who may take less", x.each(0, 1, 2, 0, 0), 0);
        due("who may take less", x.each(0, 1, 1, 0, 1), 1);
        // 2 or 3 against 1: with 1 left he can't take.
        due("he leaves 1 to who takes one", x.each(3, 0, 3, 0, 1), 3);
        due("he has no take", x.each(3, 0, 1, 0, 0), 0);
        due("one leaves 1 to him", x.each(0, 3, 2, 0, 1), 1);
        due("none", x.each(3, 0, 1, 0, 1), -2);
        due("no such law", x.each(4, 0, 1, 0, 0), -1);
        due("no such other law", x.each(0, 4, 1, 0, 0), -1);
        due("no such other law", x.each(0, -1, 1, 0, 0), -1);
        due("no such heap", x.each(0, 1, 41, 0, 0), -1);
        due("no such last", x.each(0, 1, 1, 41, 0), -1);
        due("no such what", x.each(0, 1, 1, 1, 2), -1);
    }

    private static void ones() {
        at("promise 15");
        DoubleHeap x = with(ONE, "m2(1=1)", "m9(1=1);f(x=1&n=5)", "m1(t=0);m3(1=1);f(x<3)");
        due("odd", x.ones(0, 39, 0), 1);
        due("even", x.ones(0, 40, 0), 0);
        due("1", x.ones(1, 1, 0), 1);
        due("2: the other takes the last", x.ones(1, 2, 0), 0);
        due("3: the other takes two", x.ones(1, 3, 0), 0);
        due("4: to 3, then 2 or 1 are left: 1 loses", x.ones(1, 4, 0), 0);
        due("one is no take", x.ones(2, 5, 0), 0);
        // One is forbidden: who takes one has no take.
        due("one is forbidden", x.ones(3, 1, 0), 0);
        due("nothing there", x.ones(0, 0, 0), 0);
        due("the other has no take", with("m1(t=0);m0(1=1)").ones(0, 9, 0), 1);
        due("by what was taken last", with("mt(1=1)").ones(0, 9, 0), 0);
        due("by what was taken last", with("mt(1=1)").ones(0, 9, 40), 1);
        due("no such heap", x.ones(0, 41, 0), -1);
        due("no such heap", x.ones(0, -1, 0), -1);
        due("no such last", x.ones(0, 1, 41), -1);
        due("no such last", x.ones(0, 1, -1), -1);
        due("no such law", x.ones(4, 1, 1), -1);
    }

    private static void passes() {
        at("promise 16");
        DoubleHeap x = with(ONE, THREE, NO_TAKE);
        due("nothing there, a pass", x.passes(0, 0, 0, 1, 0, 0), 1);
        due("nothing there, a pass", x.passes(0, 0, 0, 1, 0, 1), 1);
        due("nothing there, each a pass", x.passes(0, 0, 0, 1, 1, 0), 0);
        due("nothing there, the other's pass", x.passes(0, 0, 0, 0, 1, 0), 0);
        due("nobody takes", x.passes(2, 9, 0, 1, 0, 1), 1);
        due("4 by threes with a pass", x.passes(1, 4, 0, 1, 0, 0), 1);
        due("a take is good, too: the pass is left for later", x.passes(1, 4, 0, 1, 0, 1), 0);
        due("5 by threes with a pass", x.passes(1, 5, 0, 1, 0, 0), 1);
        due("a take is good, too", x.passes(1, 5, 0, 1, 0, 1), 0);
        due("the other may pass", x.passes(1, 5, 0, 0, 1, 0), 0);
        due("it is not won", x.passes(1, 5, 0, 0, 1, 1), 0);
        due("no passes", x.passes(1, 5, 0, 0, 0, 0), 1);
        due("no passes", x.passes(1, 4, 0, 0, 0, 0), 0);
        due("ones of 1 with the other's pass", x.passes(0, 1, 0, 0, 1, 0), 0);
        due("last stays", with("m1(t=3)").passes(0, 1, 3, 1, 0, 0), 1);
        due("last stays: the other takes behind a pass", with("m1(t=3)").passes(0, 1, 3, 1, 0, 1), 0);
        due("no such passes", x.passes(0, 1, 0, 2, 0, 0), -1);
        due("no such passes", x.passes(0, 1, 0, -1, 0, 0), -1);
        due("no such passes", x.passes(0, 1, 0, 0, 2, 0), -1);
        due("no such passes", x.passes(0, 1, 0, 0, -1, 0), -1);
        due("no such what", x.passes(0, 1, 0, 0, 0, 2), -1);
        due("no such heap", x.passes(0, 41, 0, 0, 0, 0), -1);
        due("no such last", x.passes(0, 1, 41, 0, 0, 0), -1);
        due("no such law", x.passes(3, 1, 0, 0, 0, 0), -1);
    }

    private static void hope() {
        at("promise 17");
        DoubleHeap x = with(THREE, ALL, NO_TAKE, ONE);
        due("she takes all", x.hope(1, 40, 0, 0, 0), 1000000);
        due("all is her take", x.hope(1, 40, 0, 0, 1), 40);
        due("the child of 1", x.hope(0, 1, 0, 1, 0), 0);
        due("the child of 2", x.hope(0, 2, 0, 1, 0), 500000);
        due("the child of 3", x.hope(0, 3, 0, 1, 0), 666666);
        // 4: behind 1, 2, 3 it is hers and she takes all.
        due("the child of 4", x.hope(0, 4, 0, 1, 0), 1000000);
        // She of 4: 1 leaves 666666, 2 leaves 500000, 3 leaves 0.
        due("she of 4", x.hope(0, 4, 0, 0, 0), 666666);
        due("she of 4 takes 1", x.hope(0, 4, 0, 0, 1), 1);
        // The child of 5: 1 leaves her 4 (666666), 2 leaves 3, 3 leaves 2: 2666666 / 3.
        due("the child of 5", x.hope(0, 5, 0, 1, 0), 888888);
        due("she has none", x.hope(2, 9, 0, 0, 0), 0);
        due("she has none", x.hope(2, 9, 0, 0, 1), -2);
        due("the child has none", x.hope(2, 9, 0, 1, 0), 1000000);
        due("it is not hers", x.hope(0, 9, 0, 1, 1), -2);
        due("lost all the same: the least", x.hope(3, 2, 0, 0, 1), 1);
        due("lost all the same", x.hope(3, 2, 0, 0, 0), 0);
        due("of like ones the least", with(ODD).hope(0, 39, 0, 0, 1), 1);
        due("no such one", x.hope(0, 1, 0, 2, 0), -1);
        due("no such one", x.hope(0, 1, 0, -1, 0), -1);
        due("no such what", x.hope(0, 1, 0, 0, 2), -1);
        due("no such heap", x.hope(0, 41, 0, 0, 0), -1);
        due("no such last", x.hope(0, 1, -1, 0, 0), -1);
        due("no such law", x.hope(4, 1, 0, 0, 0), -1);
    }

    private static void pattern() {
        at("promise 18");
        DoubleHeap x = with(DOUBLE, "mn-1(t=0);mt(1=1)", NO_TAKE, "mn-1(t=0);mt*3(1=1)");
        due("double: one and two ahead", x.pattern(0, 0), 1);
        // As much as was taken: 1 2 4 8 16 32.
        due("powers of two", x.pattern(1, 0), 0);
        due("powers of two from the second on", x.pattern(1, 1), 1);
        due("powers of two", x.pattern(1, 2), 6);
        due("1 to 40: no", x.pattern(2, 0), -2);
        due("1 to 40: no", x.pattern(2, 1), -2);
        due("1 to 40", x.pattern(2, 2), 40);
        // Three times: 1 2 3 4 6 8 11 15 21 29 40: each one and the third ahead of that.
        due("three times: how many", x.pattern(3, 2), 11);
        due("three times: the lag", x.pattern(3, 0), 3);
        due("three times: 6 = 4 + 2", x.pattern(3, 1), 5);
        // Lost at 1, 2 and 4 alone: 4 = 2 + 2, 2 = 1 + 1 are two places.
        String three = "mn(n>4);mn(n=3);m0(1=1)";
        DoubleHeap y = with(three, "mn(n>8);mn(n=3);mn(n=5);mn(n=6);mn(n=7);m0(1=1)");
        due("two places are too few", y.pattern(0, 0), -2);
        due("three numbers", y.pattern(0, 2), 3);
        due("three places will do", y.pattern(1, 0), 0);
        due("three places will do", y.pattern(1, 1), 1);
        due("no such what", x.pattern(0, 3), -1);
        due("no such what", x.pattern(0, -1), -1);
        due("no such law", x.pattern(4, 0), -1);
    }

    private static void simple() {
        at("promise 19");
        DoubleHeap x = with(DOUBLE, "mn-1(t=0);m4*t+4(1=1)", ALL, NO_TAKE);
        due("double", x.simple(0, 1), 20);
        due("four times and four more", x.simple(1, 1) >= 0 ? 1 : 0, 1);
        due("no lost numbers", x.simple(2, 0), 0);
        due("no lost numbers", x.simple(2, 1), -2);
        // k and c are 0: nobody takes a second time, so one take wins.
        due("only 1 is lost if who begins takes alone", with("mn-1(t=0)").simple(0, 1), 0);
        due("no such what", x.simple(0, 2), -1);
        due("no such what", x.simple(0, -1), -1);
        due("no such law", x.simple(4, 0), -1);
        for (int k = 0; k <= 4; k++) {
            for (int c = 0; c <= 4; c++) {
                DoubleHeap y = with("mn-1(t=0);mt*" + k + "+" + c + "(1=1)");
                int first = y.simple(0, 1);
                DoubleHeap z = with("mn-1(t=0);mt*" + first / 10 + "+" + first % 10 + "(1=1)");
                due("the first of " + k + c + " is not behind it", first <= 10 * k + c && first >= 0, true);
                due("the first of " + k + c + " is alike", z.lost(0), y.lost(0));
            }
        }
    }

    private static void unlike() {
        at("promise 21");
        DoubleHeap x = with(THREE, "m3(t<40);m2(1=1)", "m3(1=1);f(x=3&t=40&n=7)");
        due("like itself", x.unlike(0, 0, 0), 0);
        due("like itself", x.unlike(0, 0, 1), 0);
        due("like itself", x.unlike(0, 0, 2), -2);
        // By last 40 from 3 on 3 is no take: 38 heaps; it was good at 3, 7, .. 39: ten heaps.
        due("other takes", x.unlike(0, 1, 0), 38);
        due("other takes, the other way round", x.unlike(1, 0, 0), 38);
        due("other winners", x.unlike(0, 1, 1), 10);
        due("the first one", x.unlike(0, 1, 2), 340);
        due("one other state", x.unlike(0, 2, 0), 1);
        due("one other winner", x.unlike(0, 2, 1), 1);
        due("its heap and last", x.unlike(0, 2, 2), 740);
        due("no such what", x.unlike(0, 1, 3), -1);
        due("no such what", x.unlike(0, 1, -1), -1);
        due("no such law", x.unlike(3, 0, 0), -1);
        due("no such law", x.unlike(0, 3, 0), -1);
    }

    private static void judged() {
        at("promise 22");
        DoubleHeap x = with(THREE);
        // 12: 3 left 9: 1 (good), left 8: 4 (none), left 4: 2 (none good), left 2: 2 (good).
        due("told", game(x, 0, "12:3,1,4,2,2"), 5);
        due("none by the law", x.judged(0, 0, 0, 0), 1);
        due("none by the law, of the other", x.judged(0, 0, 1, 0), 0);
        due("where there was a good one", x.judged(0, 0, 0, 1), 1);
        due("good ones of these", x.judged(0, 0, 0, 2), 1);
        due("where there was a good one, of the other", x.judged(0, 0, 1, 1), 1);
        due("good ones of these, of the other", x.judged(0, 0, 1, 2), 1);
        due("in all", x.judged(0, 0, 0, 3), 3);
        due("in all of the other", x.judged(0, 0, 1, 3), 2);
        due("a good one, but another take, that is none", game(x, 1, "7:4,1"), 2);
        due("none", x.judged(1, 0, 0, 0), 1);
        due("could", x.judged(1, 0, 0, 1), 1);
        due("not good", x.judged(1, 0, 0, 2), 0);
        due("no takes", game(x, 8, "7:"), 0);
        due("no takes", x.judged(8, 0, 0, 3), 0);
        due("no such game", x.judged(2, 0, 0, 0), -1);
        due("no such game", x.judged(9, 0, 0, 0), -1);
        due("no such game", x.judged(-1, 0, 0, 0), -1);
        due("no such law", x.judged(0, 1, 0, 0), -1);
        due("no such player", x.judged(0, 0, 2, 0), -1);
        due("no such player", x.judged(0, 0, -1, 0), -1);
        due("no such what", x.judged(0, 0, 0, 4), -1);
        due("no such what", x.judged(0, 0, 0, -1), -1);
    }

    private static void fromWhenAndThought() {
        at("promise 23");
        DoubleHeap x = with(THREE);
        due("no games", x.fromWhen(0, 0), 0);
        game(x, 4, "7:3,1,3");
        due("two good ones", x.fromWhen(0, 0), 2);
        due("none of the other", x.fromWhen(0, 1), 0);
        game(x, 2, "7:1,2");
        due("a slip in a game ahead", x.fromWhen(0, 0), 2);
        due("the other's good one", x.fromWhen(0, 1), 1);
        game(x, 6, "4:1,3");
        due("a take where none was good does not count", x.fromWhen(0, 0), 2);
        due("the other's second good one", x.fromWhen(0, 1), 2);
        game(x, 8, "5:2,1,1,1");
        due("a slip at the last", x.fromWhen(0, 0), 0);
        due("a slip of the other", x.fromWhen(0, 1), 1);
        DoubleHeap w = with(DOUBLE);
        game(w, 0, "40:1,2");
        due("of 40", w.fromWhen(0, 0), 1);
        due("of 40, the other", w.fromWhen(0, 1), 0);
        due("no such law", x.fromWhen(1, 0), -1);
        due("no such law", x.fromWhen(4, 0), -1);
        due("no such player", x.fromWhen(0, 2), -1);
        due("no such player", x.fromWhen(0, -1), -1);
        at("promise 24");
        DoubleHeap y = with(THREE, ALL, ONE);
        due("no games: all told laws", y.thought(0), 7);
        DoubleHeap z = with(DOUBLE, THREE);
        game(z, 0, "40:2,1");
        due("of 40", z.thought(0), 2);
        game(y, 0, "5:1");
        due("1 of 5 is good by threes and ones", y.thought(0), 5);
        due("the other has not taken", y.thought(1), 7);
        game(y, 1, "7:3");
        due("3 is no take by ones", y.thought(0), 1);
        game(y, 2, "8:3");
        due("none was good", y.thought(0), 1);
        game(y, 3, "8:4");
        due("4 is no take by threes, though none was good", y.thought(0), 0);
        due("no such player", y.thought(2), -1);
        due("no such player", y.thought(-1), -1);
    }

    private static void chance() {
        at("promise 25");
        DoubleHeap x = with(THREE, ODD, NO_TAKE, "mn(t=0);m40(1=1);f(n-x>0&[n-x]%2=0)");
        game(x, 0, "7:3,1,3");
        due("above", x.chance(0, 0, 0, 0), 1);
        due("below", x.chance(0, 0, 0, 1), 9);
        due("no such states", x.chance(0, 0, 1, 0), 1);
        due("no such states", x.chance(0, 0, 1, 1), 1);
        due("all are good", x.chance(0, 1, 0, 1), 1);
        due("no takes at all", x.chance(0, 2, 0, 1), 1);
        game(x, 1, "2:1,1");
        due("one of two", x.chance(1, 0, 0, 1), 2);
        due("one of one", x.chance(1, 0, 1, 1), 1);
        due("no such game", x.chance(2, 0, 0, 0), -1);
        due("no such game", x.chance(9, 0, 0, 0), -1);
        due("no such law", x.chance(0, 4, 0, 0), -1);
        due("no such player", x.chance(0, 0, 2, 0), -1);
        due("no such what", x.chance(0, 0, 0, 2), -1);
        due("no such what", x.chance(0, 0, 0, -1), -1);
        // All may be taken, one is good: 40 * 38 * .. below the line of who takes one each time.
        DoubleHeap y = with(ALL, "m10(1=1)", ODD);
        game(y, 0, "40:" + ones(13));
        due("40 38 36 34 32 30 28", y.chance(0, 0, 0, 1), 40L * 38 * 36 * 34 * 32 * 30 * 28);
        game(y, 0, "40:" + ones(15));
        due("and 26: too great", y.chance(0, 0, 0, 1), -2);
        due("so above", y.chance(0, 0, 0, 0), -2);
        due("39 37 35 33 31 29 27", y.chance(0, 0, 1, 1), 39L * 37 * 35 * 33 * 31 * 29 * 27);
        // One of ten, twelve times (22 is lost).
        game(y, 1, "40:" + ones(25));
        due("just so great", y.chance(1, 1, 0, 1), 1000000000000L);
        due("just so great", y.chance(1, 1, 0, 0), 1);
        game(y, 1, "40:" + ones(27));
        due("too great", y.chance(1, 1, 0, 1), -2);
        game(y, 2, "39:" + ones(39));
        due("20 of 20, 19 of 19 and so on", y.chance(2, 2, 0, 1), 1);
    }

    private static void stove() {
        at("promise 26");
        DoubleHeap x = with(DOUBLE, ONE);
        due("stove", x.stove(1, 40), true);
        due("its heap", x.count(0), 40);
        due("its law", x.count(2), 1);
        x.take(1);
        due("no such law", x.stove(2, 5), false);
        due("no such law", x.stove(-1, 5), false);
        due("no such heap", x.stove(0, 41), false);
        due("no such heap", x.stove(0, -1), false);
        due("nothing is changed", x.count(0), 39);
        due("nothing is changed", x.count(1), 1);
        due("nothing is changed", x.count(2), 1);
        due("nothing is changed", x.count(3), 1);
        due("anew", x.stove(0, 5), true);
        due("last is 0", x.count(1), 0);
        due("nothing to take back", x.count(3), 0);
        due("nothing to take back", x.back(), -2);
        at("promise 27");
        due("not all at first", x.take(5), -1);
        due("two of them", x.take(2), 3);
        due("last", x.count(1), 2);
        due("no take", x.take(4), -1);
        due("no take", x.take(0), -1);
        due("no take", x.take(-1), -1);
        due("no take", x.take(64), -1);
        due("no take", x.take(65), -1);
        due("no take", x.take(Integer.MIN_VALUE), -1);
        due("the rest", x.take(3), 0);
        due("no more", x.take(1), -1);
        due("law 0 is not told", new DoubleHeap().take(1), -1);
        DoubleHeap y = with(ONE);
        y.stove(0, 9);
        law(y, 0, THREE);
        due("by the law as it is now", y.take(3), 6);
        law(y, 0, "m");
        due("a law with a fault changes nothing", y.take(3), 3);
    }

    private static void sheAndChild() {
        at("promise 28");
        DoubleHeap x = with(THREE, NO_TAKE);
        due("nothing there", x.she(), -2);
        x.stove(0, 11);
        due("good", x.she(), 3);
        due("none is good: the least", x.she(), 1);
        due("left", x.count(0), 7);
        due("can be taken back", x.count(3), 2);
        x.stove(1, 11);
        due("no take", x.she(), -2);
        due("nothing is changed", x.count(3), 0);
        due("law 0 is not told", new DoubleHeap().she(), -1);
        at("promise 29");
        due("law 0 is not told", new DoubleHeap().child(), -1);
        due("no take", x.child(), -2);
        due("no draw", x.count(7), 1);
        x.stove(0, 11);
        // X: 39022; by three: 39022 = 3 * 13007 + 1.
        due("the second take", x.child(), 2);
        due("X", x.count(7), 39022);
        due("last", x.count(1), 2);
        due("left", x.count(0), 9);
        // 25173 * 39022 + 13849 = 982314655; modulo 65536: 61087; by three: 1.
        due("the second take", x.child(), 2);
        due("X", x.count(7), 61087);
        DoubleHeap y = with(ODD);
        y.stove(0, 7);
        y.seed(65535);
        // 25173 * 65535 + 13849 = 1649726404; modulo 65536: 54212; of 1 3 5 7 by four: 0.
        due("the first of the odd ones", y.child(), 1);
        due("X", y.count(7), 54212);
        DoubleHeap z = with("m40(1=1);f(x<40)");
        z.stove(0, 40);
        due("all forty", z.child(), 40);
    }

    private static void back() {
        at("promise 30");
        DoubleHeap x = with(THREE);
        x.stove(0, 10);
        x.take(3);
        x.take(2);
        x.child();
        int draw = x.count(7);
        due("what the child took", x.back(), 2);
        due("the draw is not taken back", x.count(7), draw);
        due("left", x.count(0), 5);
        due("last", x.count(1), 2);
        due("the second", x.back(), 2);
        due("last", x.count(1), 3);
        due("the first", x.back(), 3);
        due("last", x.count(1), 0);
        due("left", x.count(0), 10);
        due("none", x.back(), -2);
        due("left", x.count(0), 10);
        DoubleHeap y = with(ONE);
        y.stove(0, 40);
        for (int i = 0; i < 40; i++) {
            y.take(1);
        }
        due("forty", y.count(3), 40);
        y.keep();
        y.stove(0, 3);
        y.undo();
        for (int i = 0; i < 40; i++) {
            due("forty back", y.back(), 1);
        }
        due("forty are there again", y.count(0), 40);
    }

    private static void against() {
        at("promise 31");
        DoubleHeap x = with(ONE, THREE, NO_TAKE, DOUBLE);
        due("ones: odd is hers if she begins", x.against(0, 39, 0, 0), 1);
        due("ones: so many takes", x.against(0, 39, 0, 1), 39);
        due("ones: the child begins", x.against(0, 39, 1, 0), 0);
        due("ones: even", x.against(0, 40, 1, 0), 1);
        due("ones: forty takes", x.against(0, 40, 1, 1), 40);
        due("nobody takes, she begins", x.against(2, 9, 0, 0), 0);
        due("nobody takes, the child begins", x.against(2, 9, 1, 0), 1);
        due("no takes", x.against(2, 9, 1, 1), 0);
        due("nothing there", x.against(0, 0, 1, 0), 1);
        due("X is as it was", x.count(7), 1);
        // The child draws 2 of 7 (39022), she leaves 4, the child draws 2 (61087), she takes 2.
        due("threes of 7, the child begins", x.against(1, 7, 1, 0), 1);
        due("threes of 7, the child begins", x.against(1, 7, 1, 1), 4);
        due("no such heap", x.against(0, 41, 0, 0), -1);
        due("no such heap", x.against(0, -1, 0, 0), -1);
        due("no such one", x.against(0, 1, 2, 0), -1);
        due("no such what", x.against(0, 1, 0, 2), -1);
        due("no such law", x.against(4, 1, 0, 0), -1);
        at("promise 32");
        due("thirty evenings", x.evenings(30, 0, 39, 0), 30);
        due("thirty evenings", x.evenings(30, 0, 39, 1), 0);
        due("won by who knows", x.evenings(30, 1, 7, 0), 30);
        due("no evenings", x.evenings(0, 0, 1, 0), -1);
        due("too many", x.evenings(31, 0, 1, 0), -1);
        due("no such heap", x.evenings(1, 0, 41, 0), -1);
        due("no such one", x.evenings(1, 0, 1, 2), -1);
        due("no such law", x.evenings(1, 4, 1, 0), -1);
        due("X is as it was", x.count(7), 1);
        // Two of 2, the child begins: it takes 1 by an even X, 2 by an odd one; draws from 1 on:
        // 39022, 61087, 20196, 45005, 3882, 21259, 65216, 19417.
        int[] draws = {39022, 61087, 20196, 45005, 3882, 21259, 65216, 19417};
        int won = 0;
        for (int n = 1; n <= draws.length; n++) {
            won += draws[n - 1] % 2 == 0 ? 1 : 0;
            due("evenings go on with the draws, " + n, x.evenings(n, 1, 2, 1), won);
        }
    }

    private static void seedKeepUndo() {
        at("promise 33");
        DoubleHeap x = with(THREE);
        due("seed", x.seed(0), true);
        due("X", x.count(7), 0);
        due("seed", x.seed(65535), true);
        due("X", x.count(7), 65535);
        due("too great", x.seed(65536), false);
        due("too small", x.seed(-1), false);
        due("X", x.count(7), 65535);
        at("promise 34");
        DoubleHeap y = with(THREE, ONE);
        due("none was kept", y.undo(), false);
        due("a new one", y.keep(), 0);
        y.stove(0, 12);
        y.take(2);
        y.take(1);
        due("its heap", y.keep(), 9);
        y.child();
        y.stove(1, 5);
        y.take(1);
        y.seed(77);
        at("promise 35");
        due("undone", y.undo(), true);
        due("heap", y.count(0), 9);
        due("last", y.count(1), 1);
        due("law", y.count(2), 0);
        due("to take back", y.count(3), 2);
        due("X", y.count(7), 1);
        due("taken back", y.back(), 1);
        due("taken back", y.back(), 2);
        due("taken back", y.back(), -2);
        y.take(3);
        due("undone once more", y.undo(), true);
        due("heap", y.count(0), 9);
        due("what was kept is not what came later", y.back(), 1);
        law(y, 0, ONE);
        game(y, 0, "1:1");
        due("undone once more", y.undo(), true);
        due("laws are not kept", y.state(0, 9, 0, 4), 1);
        due("games are not kept", y.count(5), 1);
    }

    private static void check() {
        at("promise 36");
        DoubleHeap x = with(DOUBLE, NO_TAKE);
        feed(x, 1, 2, 3, 5, 8, 13, 21, 34);
        due("right", x.check(0, 8), -1);
        due("the tape is empty", x.count(6), 0);
        feed(x, 1, 2, 3, 5, 8, 13, 21, 34, 0, 0, 0, 0);
        due("0 behind the last one", x.check(0, 12), -1);
        feed(x, 1, 2, 3, 5, 8, 13, 21, 34, 0, 7);
        due("not 0 behind the last one", x.check(0, 10), 9);
        feed(x, 0, 2, 4);
        due("the first that is not so", x.check(0, 3), 0);
        feed(x, 1, 2, 4);
        due("the first ones alone", x.check(0, 2), -1);
        feed(x, 9);
        due("no bytes are right", x.check(0, 0), -1);
        due("the tape is empty", x.count(6), 0);
        due("no bytes of an empty tape", x.check(0, 0), -1);
        due("it has not so many", x.check(0, 1), -2);
        feed(x, 1);
        due("it has not so many", x.check(0, 21), -2);
        due("no such number", x.check(0, -1), -2);
        due("no such law", x.check(2, 1), -2);
        due("no such law", x.check(4, 1), -2);
        feed(x, new int[40]);
        due("too many", x.check(0, 41), -2);
        due("the tape stays", x.count(6), 60);
        due("the tape stays", x.check(0, 1), -1);
        int[] forty = new int[40];
        for (int i = 0; i < 40; i++) {
            forty[i] = i + 1;
        }
        feed(x, forty);
        due("forty of them", x.check(1, 40), -1);
        forty[39] = 41;
        feed(x, forty);
        due("the fortieth", x.check(1, 40), 39);
    }

    private static void count() {
        at("promise 37");
        DoubleHeap x = with(DOUBLE, ONE);
        law(x, 3, "f(1=1);f(1=1);f(1=1)");
        game(x, 0, "9:1,2,3");
        game(x, 8, "9:");
        due("laws", x.count(4), 11);
        due("games", x.count(5), 257);
        due("rules", x.count(10), 2);
        due("rules", x.count(11), 1);
        due("not told", x.count(12), -1);
        due("rules", x.count(13), 3);
        due("takes", x.count(20), 3);
        due("not told", x.count(21), -1);
        due("takes", x.count(28), 0);
        int[] others = {-1, 8, 9, 14, 15, 19, 29, 30, 100, Integer.MIN_VALUE, Integer.MAX_VALUE};
        for (int other : others) {
            due("no such what " + other, x.count(other), -1);
        }
    }
}
