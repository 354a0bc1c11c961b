/** Promises 1 to 5 and the terms of the text: each sentence that names a boundary, by its words. */
public final class ToldEdgesTest {
    private static final int BAD = RoofNet.BAD, NO = RoofNet.NO, FULL = RoofNet.FULL, NONE = RoofNet.NONE;
    private static final Due due = new Due();
    private static final Twins twins = new Twins(due);
    private static final String FIXED = "f1,1,1;";
    private static final String FREE = "u9;";

    public static void main(String[] args) {
        atMost512Calls();
        asTold();
        theTextIsEmpty();
        lettersFrom32To126();
        fullBehind200();
        wipeTellsHowLongItWas();
        atMostTenJoints();
        from0To60Each();
        atMostFiveFreeOnes();
        loadsFrom0To18();
        atMostFourteenStrands();
        betweenTwoUnlikeJoints();
        jointsToldAhead();
        densitiesFrom1To5();
        wantedFrom0To99();
        atMostFourOfAFreeJoint();
        atMostOneOfTwoJoints();
        rollsFrom1To99AndLostFrom0To50();
        oneOrTwoFigures();
        aSemicolonBehindEach();
        onlyTheFourItems();
        theFirstFaultOfSeveral();
        faultOfAnEmptyAndOfAFullText();
        faultChangesNothing();
        aJointAtLeast();
        withoutFault();
        withoutRollsAndOfSeveral();
        allHangAndNothingCanBeUndone();
        theTextStays();
        due.end();
    }

    /** "An object is used for at most 512 calls after it has been made": the 512th is answered still. */
    private static void atMost512Calls() {
        RoofNet net = new RoofNet();
        for (int calls = 1; calls <= 200; calls++) {
            due.is("call " + calls, net.write(Nets.FULL.charAt(calls - 1)), calls);
        }
        due.is("call 201", net.lay(), 10);
        for (int calls = 202; calls <= 511; calls++) {
            boolean downNext = calls % 2 == 0;
            due.is("call " + calls, net.down(13, downNext ? 1 : 0), downNext ? 13 : 14);
        }
        due.is("call 512", net.count(5), 6);
        for (int calls = 513; calls <= 1500; calls++) {
            net.round(20);
        }
    }

    /** "As told" and "at first f0,0,10;f40,0,30;..": as if that text had been laid. */
    private static void asTold() {
        RoofNet laid = Due.laid(Nets.FIRST);
        laid.wipe();
        due.same("a new object", Twins.all(new RoofNet()), Twins.all(laid));
        RoofNet other = new RoofNet();
        Nets.changeFirst(other);
        other.lay();
        laid = Due.laid(Nets.FIRST);
        laid.wipe();
        due.same("a new object beside another", Twins.all(new RoofNet()), Twins.all(laid));
    }

    /** "THE TEXT is empty." */
    private static void theTextIsEmpty() {
        RoofNet net = new RoofNet();
        due.is("letters of a new object", net.count(6), 0);
        due.is("fault() of a new object", net.fault(), NONE);
        due.is("lay() of a new object", net.lay(), NO);
        due.is("wipe() of a new object", net.wipe(), 0);
        due.is("undo() of a new object", net.undo(), NO);
        due.is("write() on a new object", net.write('f'), 1);
    }

    /** "A letter (32 to 126, as in ASCII) comes behind THE TEXT: how long it is. BAD". */
    private static void lettersFrom32To126() {
        twins.range("letter", 32, 126, BAD, letter -> new RoofNet().write(letter));
        RoofNet net = new RoofNet();
        for (int letter = 32; letter <= 126; letter++) {
            due.is("letters up to " + letter, net.write(letter), letter - 31);
        }
        for (int letter : new int[] {31, 127, 0, -1, 10, 'f' + 256, 'f' + 65536, 'f' - 256}) {
            twins.leavesAll("write(" + letter + ")", Nets::changeFirst, BAD, one -> one.write(letter));
        }
    }

    /** "FULL: it has 200." */
    private static void fullBehind200() {
        RoofNet net = new RoofNet();
        Due.write(net, Nets.FULL.substring(0, 199));
        due.is("199 letters", net.count(6), 199);
        due.is("fault() of 199 letters", net.fault(), 193);
        due.is("the 200th letter", net.write(';'), 200);
        due.is("the 201st letter", net.write(';'), FULL);
        due.is("200 letters", net.count(6), 200);
        due.is("fault() of 200 letters", net.fault(), NONE);
        due.is("lay() of 200 letters", net.lay(), 10);
        due.is("the 201st letter again", net.write('f'), FULL);
        due.is("BAD comes ahead of FULL", net.write(31), BAD);
        due.is("BAD comes ahead of FULL, too", net.write(127), BAD);
        due.is("wipe() of a full text", net.wipe(), 200);
        due.is("room again", net.write('f'), 1);
        twins.leavesAll("write when full", Nets::layFull, FULL, one -> one.write('u'));
        twins.leavesAll("write when full, BAD", Nets::layFull, BAD, one -> one.write(127));
    }

    /** "THE TEXT is empty: how long it was." */
    private static void wipeTellsHowLongItWas() {
        RoofNet net = new RoofNet();
        due.is("wipe() of none", net.wipe(), 0);
        net.write('f');
        due.is("wipe() of one", net.wipe(), 1);
        due.is("letters then", net.count(6), 0);
        due.is("fault() then", net.fault(), NONE);
        due.is("lay() then", net.lay(), NO);
        due.is("the roof stays", net.count(0), 6);
        Due.write(net, "u9;");
        due.is("nothing of the old text is left", net.lay(), 1);
        twins.leavesAll("wipe() of an empty text", one -> one.density(0, 2), 0, RoofNet::wipe);
        RoofNet wiped = Twins.fresh(Nets::changeFirst);
        due.is("wipe() behind changes", wiped.wipe(), 19);
        due.is("what can be undone stays", wiped.count(5), 6);
        due.is("undo() behind wipe()", wiped.undo(), 5);
    }

    /** "JOINTS 0, 1, .. (10 at most)", "or is one too many". */
    private static void atMostTenJoints() {
        due.faultOf(FIXED.repeat(10), NONE);
        due.faultOf(FIXED.repeat(11), 70);
        due.faultOf(FIXED.repeat(10) + FREE, 70);
        due.faultOf(FREE.repeat(5) + FIXED.repeat(5), NONE);
        due.faultOf(FREE.repeat(5) + FIXED.repeat(6), 50);
        due.faultOf(FIXED.repeat(5) + FREE.repeat(5) + FIXED, 50);
        due.faultOf(FIXED.repeat(10) + "r1,0;s9,8,1,0;", NONE);
        due.faultOf(FIXED.repeat(10) + "s10,8,1,0;", 70);
        due.is("ten joints", Due.laid(FIXED.repeat(10)).count(0), 10);
    }

    /** "FIXED ones, at X, Y, Z (0 to 60 each)". */
    private static void from0To60Each() {
        due.faultOf("f0,0,0;", NONE);
        due.faultOf("f60,60,60;", NONE);
        for (int past : new int[] {61, 62, 64, 99}) {
            due.faultOf("f" + past + ",0,0;", 0);
            due.faultOf("f0," + past + ",0;", 0);
            due.faultOf("f0,0," + past + ";", 0);
        }
        for (String low : new String[] {"f-1,0,0;", "f0,-1,0;", "f0,0,-1;", "f+1,0,0;"}) {
            due.faultOf(low, 0);
        }
        RoofNet net = Due.laid("f0,30,60;f60,0,1;");
        int[][] at = {{0, 30, 60}, {60, 0, 1}};
        for (int j = 0; j < 2; j++) {
            for (int axis = 0; axis < 3; axis++) {
                due.is("exact(" + j + ", " + axis + ", 0)", net.exact(j, axis, 0), at[j][axis]);
            }
        }
    }

    /** "FREE ones (5 at most)". */
    private static void atMostFiveFreeOnes() {
        due.faultOf(FREE.repeat(5), NONE);
        due.faultOf(FREE.repeat(6), 15);
        due.faultOf(FIXED + FREE.repeat(4) + FIXED + FREE + FIXED, NONE);
        due.faultOf(FIXED + FREE.repeat(4) + FIXED + FREE + FREE, 29);
        due.is("five free ones", Due.laid(FREE.repeat(5)).count(1), 5);
        due.is("no free one", Due.laid(FIXED).count(1), 0);
    }

    /** "its LOAD L less 9 (L 0 to 18)", "a LOAD (-9 to 9)". */
    private static void loadsFrom0To18() {
        for (int load = 0; load <= 18; load++) {
            due.is("load of u" + load, Due.laid("u" + load + ";").joint(0, 5), load);
        }
        for (int load : new int[] {19, 20, 27, 99}) {
            due.faultOf("u" + load + ";", 0);
        }
        due.faultOf("u-1;", 0);
        due.faultOf("u18;u19;", 4);
    }

    /** "STRANDS 0, 1, .. (14 at most)". */
    private static void atMostFourteenStrands() {
        StringBuilder text = new StringBuilder(FIXED.repeat(6));
        for (int s = 0; s < 14; s++) {
            text.append(strandOfSix(s));
        }
        due.faultOf(text.toString(), NONE);
        due.is("fourteen strands", Due.laid(text.toString()).count(2), 14);
        due.is("fourteen hang", Due.laid(text.toString()).count(3), 14);
        due.faultOf(text + "r9,9;", NONE);
        due.faultOf(text + strandOfSix(14), text.length());
        due.is("none", Due.laid(FIXED).count(2), 0);
    }

    /** The strands between six joints, 15 in all. */
    private static String strandOfSix(int number) {
        int left = number;
        for (int a = 0; a < 5; a++) {
            if (left < 5 - a) {
                return "s" + a + "," + (a + 1 + left) + ",1,0;";
            }
            left -= 5 - a;
        }
        throw new IllegalArgumentException("there are 15");
    }

    /** "between two unlike JOINTS". */
    private static void betweenTwoUnlikeJoints() {
        due.faultOf(FIXED + FREE + "s0,0,1,0;", 10);
        due.faultOf(FIXED + FREE + "s1,1,1,0;", 10);
        due.faultOf(FIXED + FREE + "s0,1,1,0;", NONE);
        due.faultOf(FIXED + FREE + "s1,0,1,0;", NONE);
        due.faultOf(FIXED + FIXED + "s0,1,1,0;", NONE);
        due.faultOf(FREE + FREE + "s0,1,1,0;", NONE);
        RoofNet net = Due.laid(FIXED + FREE + "s1,0,1,0;");
        due.is("A", net.strand(0, 0), 1);
        due.is("B", net.strand(0, 1), 0);
    }

    /** "between JOINTS A and B (told ahead)". */
    private static void jointsToldAhead() {
        due.faultOf("s0,1,1,0;" + FIXED + FIXED, 0);
        due.faultOf(FIXED + "s0,1,1,0;" + FIXED, 7);
        due.faultOf(FIXED + "s1,0,1,0;" + FIXED, 7);
        due.faultOf(FIXED + FIXED + "s0,1,1,0;" + FIXED + "s2,0,1,0;", NONE);
        due.faultOf(FIXED + FIXED + "s0,2,1,0;", 14);
        due.faultOf(FIXED + FIXED + "s2,0,1,0;", 14);
        due.faultOf(FIXED + FIXED + "s0,99,1,0;", 14);
        due.faultOf(FIXED + FIXED + "s33,0,1,0;", 14);
    }

    /** "of DENSITY Q", "a DENSITY (1 to 5)". */
    private static void densitiesFrom1To5() {
        for (int q = 1; q <= 5; q++) {
            due.is("density " + q, Due.laid(FIXED + FIXED + "s0,1," + q + ",0;").strand(0, 2), q);
        }
        for (int q : new int[] {0, 6, 7, 10, 99}) {
            due.faultOf(FIXED + FIXED + "s0,1," + q + ",0;", 14);
        }
    }

    /** "a length that is WANTED (1 to 99; 0: none is)". */
    private static void wantedFrom0To99() {
        for (int w : new int[] {0, 1, 98, 99}) {
            due.is("wanted " + w, Due.laid(FIXED + FIXED + "s0,1,1," + w + ";").strand(0, 3), w);
        }
        due.faultOf(FIXED + FIXED + "s0,1,1,100;", 14);
        due.faultOf(FIXED + FIXED + "s0,1,1,-1;", 14);
        due.is("0: nothing is wanted", Due.laid(FIXED + FIXED + "s0,1,1,0;").strand(0, 7), NONE);
        due.is("1: off", Due.laid(FIXED + FIXED + "s0,1,1,1;").strand(0, 7), 100);
    }

    /** "of a FREE JOINT 4 at most": at either end; of a fixed one as many as there can be. */
    private static void atMostFourOfAFreeJoint() {
        String four = FIXED.repeat(5) + FREE + "s0,5,1,0;s5,1,1,0;s2,5,1,0;s5,3,1,0;";
        due.faultOf(four, NONE);
        due.faultOf(four + "s4,5,1,0;", four.length());
        due.faultOf(four + "s5,4,1,0;", four.length());
        due.faultOf(four + FREE + "s6,4,1,0;", NONE);
        due.faultOf(four + FREE + "s6,5,1,0;", four.length() + 3);
        due.faultOf(four + "s3,4,1,0;s0,4,1,0;", NONE);
        StringBuilder star = new StringBuilder(FIXED.repeat(10));
        for (int other = 1; other < 10; other++) {
            star.append("s0,").append(other).append(",1,0;");
        }
        due.faultOf(star.toString(), NONE);
        due.is("nine of a fixed one", Due.laid(star.toString()).joint(0, 4), 511);
    }

    /** "of two JOINTS one at most". */
    private static void atMostOneOfTwoJoints() {
        String one = FIXED + FIXED + FREE + "s0,1,1,0;";
        due.faultOf(one + "s0,1,1,0;", one.length());
        due.faultOf(one + "s1,0,2,7;", one.length());
        due.faultOf(one + "s0,2,1,0;s2,1,1,0;", NONE);
        due.faultOf(one + "s0,2,1,0;s2,0,1,0;", one.length() + 9);
    }

    /** "ROLLS of R (1 to 99), of each piece that is cut from one E (0 to 50) is lost." */
    private static void rollsFrom1To99AndLostFrom0To50() {
        due.faultOf(FIXED + "r1,0;", NONE);
        due.faultOf(FIXED + "r99,50;", NONE);
        due.faultOf(FIXED + "r0,0;", 7);
        due.faultOf(FIXED + "r00,0;", 7);
        due.faultOf(FIXED + "r100,0;", 7);
        due.faultOf(FIXED + "r1,51;", 7);
        due.faultOf(FIXED + "r1,99;", 7);
        due.faultOf(FIXED + "r1,-1;", 7);
        due.is("R 1", Due.laid(FIXED + "r1,50;").count(7), 1);
        due.is("E 50", Due.laid(FIXED + "r1,50;").count(8), 50);
        due.is("R 99", Due.laid(FIXED + "r99,0;").count(7), 99);
        due.is("E 0", Due.laid(FIXED + "r99,0;").count(8), 0);
    }

    /** "numbers have one or two figures": none and three are a fault, in each place of each item. */
    private static void oneOrTwoFigures() {
        String[] items = {"f1,1,1;", "u1;", "s1,0,1,1;", "r1,1;"};
        for (String item : items) {
            String ahead = FIXED + FREE;
            for (int i = 1; i < item.length(); i++) {
                if (Character.isDigit(item.charAt(i))) {
                    String before = ahead + item.substring(0, i);
                    String behind = item.substring(i + 1);
                    due.faultOf(before + "0" + item.charAt(i) + behind, NONE);
                    due.faultOf(before + behind, ahead.length());
                    due.faultOf(before + "00" + item.charAt(i) + behind, ahead.length());
                    due.faultOf(before + " " + item.charAt(i) + behind, ahead.length());
                    due.faultOf(before + item.charAt(i) + " " + behind, ahead.length());
                    due.faultOf(before + "/" + behind, ahead.length());
                    due.faultOf(before + ":" + behind, ahead.length());
                    due.faultOf(before + "1:" + behind, ahead.length());
                    due.faultOf(before + "1/" + behind, ahead.length());
                }
            }
        }
    }

    /** "A TEXT is ITEMS one behind the other, a ; behind each". */
    private static void aSemicolonBehindEach() {
        String[] items = {"f1,1,1;", "u1;", "s1,0,1,1;", "r1,1;"};
        String ahead = FIXED + FREE;
        int at = ahead.length();
        for (String item : items) {
            due.faultOf(ahead + item, NONE);
            for (int cut = 1; cut < item.length(); cut++) {
                due.faultOf(ahead + item.substring(0, cut), at);
                due.faultOf(ahead + item.substring(0, cut) + "," + item.substring(cut), at);
            }
            for (int cut = 1; cut < item.length() - 1; cut++) {
                due.faultOf(ahead + item.substring(0, cut) + ";" + item.substring(cut), at);
            }
            String bare = item.substring(0, item.length() - 1);
            due.faultOf(ahead + bare + ",1;", at);
            due.faultOf(ahead + bare + " ;", at);
            due.faultOf(ahead + bare + ":", at);
            due.faultOf(ahead + bare + "r1,1;", at);
            due.faultOf(ahead + item + ";", at + item.length());
            due.faultOf(ahead + item + " ", at + item.length());
            due.faultOf(ahead + ";" + item, at);
            due.faultOf(ahead + " " + item, at);
        }
    }

    /** fX,Y,Z and uL and sA,B,Q,W and rR,E: each letter but these four begins a fault. */
    private static void onlyTheFourItems() {
        for (char letter = 32; letter <= 126; letter++) {
            due.faultOf(FIXED + letter + "1;", letter == 'u' ? NONE : 7);
            due.faultOf(FIXED + letter + "1,1;", letter == 'r' ? NONE : 7);
            due.faultOf(FIXED + letter + "1,1,1;", letter == 'f' ? NONE : 7);
            due.faultOf(FIXED + FIXED + letter + "1,0,1,1;", letter == 's' ? NONE : 14);
            due.faultOf(FIXED + letter + ";", 7);
            due.faultOf(FIXED + letter, 7);
        }
    }

    /** "FAULT: the place of the first letter of the first ITEM that is not so". */
    private static void theFirstFaultOfSeveral() {
        due.faultOf("f61,0,0;u19;", 0);
        due.faultOf("f60,0,0;u19;f61,0,0;", 8);
        due.faultOf("x", 0);
        due.faultOf(";", 0);
        due.faultOf(FREE.repeat(6) + "x", 15);
        due.faultOf(FREE.repeat(5) + "x" + FREE, 15);
        due.faultOf(FIXED + "r0,0;r1,0;", 7);
        due.faultOf(FIXED + "r1,0;r0,0;", 12);
    }

    private static void faultOfAnEmptyAndOfAFullText() {
        due.is("fault() of nothing", new RoofNet().fault(), NONE);
        due.faultOf(Nets.FULL, NONE);
        due.faultOf(Nets.FULL.substring(0, 199), 193);
        due.faultOf(Nets.FULL.substring(0, 199) + ",", 193);
        String almost = Nets.FULL.substring(0, 193) + "r99,5;";
        due.faultOf(almost + "x", 199);
        due.faultOf("x" + almost, 0);
    }

    /** A question leaves all as it was, whatever the text. */
    private static void faultChangesNothing() {
        twins.leavesAll("fault() of a good text", Nets::changeFirst, NONE, RoofNet::fault);
        twins.leavesAll("fault() of a bad text", one -> {
            Nets.changeFirst(one);
            Due.write(one, "u9;u9;f61,1,1;");
        }, 25, RoofNet::fault);
        twins.leavesAll("fault() behind lay()", Nets::layFull, NONE, RoofNet::fault);
    }

    /** "LAID is a TEXT without FAULT with a JOINT at least (NO else". */
    private static void aJointAtLeast() {
        due.is("lay() of one fixed joint", Twins.fresh(one -> Due.write(one, FIXED)).lay(), 1);
        due.is("lay() of one free joint", Twins.fresh(one -> Due.write(one, FREE)).lay(), 1);
        due.is("lay() of ten", Twins.fresh(one -> Due.write(one, Nets.FULL)).lay(), 10);
        RoofNet rolls = Twins.fresh(one -> Due.write(one, "r5,5;"));
        due.is("rolls alone are no fault", rolls.fault(), NONE);
        due.is("rolls alone are not laid", rolls.lay(), NO);
        twins.leavesAll("lay() of rolls alone", one -> {
            Nets.changeFirst(one);
            one.wipe();
            Due.write(one, "r5,5;r7,7;");
        }, NO, RoofNet::lay);
        twins.leavesAll("lay() of nothing", one -> {
            Nets.changeFirst(one);
            one.wipe();
        }, NO, RoofNet::lay);
    }

    private static void withoutFault() {
        for (String bad : new String[] {"x", "f1,1,1", "u9;u9;u9;u9;u9;", "s0,1,1,1;", "r0,0;"}) {
            twins.leavesAll("lay() with a fault, " + bad, one -> {
                Nets.changeFirst(one);
                Due.write(one, bad);
            }, NO, RoofNet::lay);
        }
    }

    /** "(40, 10 without; of several the last one counts)". */
    private static void withoutRollsAndOfSeveral() {
        RoofNet without = Due.laid(FIXED);
        due.is("R without", without.count(7), 40);
        due.is("E without", without.count(8), 10);
        RoofNet several = Due.laid("r1,1;r99,50;" + FIXED + "r7,8;");
        due.is("the last R", several.count(7), 7);
        due.is("the last E", several.count(8), 8);
        several.wipe();
        Due.write(several, FREE);
        several.lay();
        due.is("R of an earlier text is gone", several.count(7), 40);
        due.is("E of an earlier text is gone", several.count(8), 10);
    }

    /** "all STRANDS hang, nothing can be UNDONE", "behind LAID none can be". */
    private static void allHangAndNothingCanBeUndone() {
        RoofNet net = Due.laid(Nets.FULL);
        for (int s = 8; s < 14; s++) {
            net.down(s, 1);
        }
        due.is("eight hang", net.count(3), 8);
        due.is("six can be undone", net.count(5), 6);
        due.is("lay() again", net.lay(), 10);
        due.is("all hang again", net.count(3), 14);
        due.is("nothing can be undone", net.count(5), 0);
        due.is("undo() behind lay()", net.undo(), NO);
        due.is("a change behind lay()", net.density(13, 2), 1);
        due.is("it alone can be undone", net.undo(), 0);
        due.is("undo() once more", net.undo(), NO);
        due.same("as laid", Twins.all(net), Twins.all(Due.laid(Nets.FULL)));
        RoofNet smaller = Due.laid(Nets.FULL);
        smaller.wipe();
        Due.write(smaller, "u4;");
        due.is("lay() of less", smaller.lay(), 1);
        due.same("nothing of the larger net is left", Twins.all(smaller), Twins.all(Due.laid("u4;")));
    }

    /** "THE TEXT stays when it is LAID." */
    private static void theTextStays() {
        RoofNet net = Due.laid(FIXED);
        due.is("letters behind lay()", net.count(6), 7);
        due.is("write() behind lay()", net.write('u'), 8);
        due.is("fault() behind lay()", net.fault(), 7);
        due.is("the net stays", net.count(0), 1);
        Due.write(net, "9;");
        due.is("lay() with more behind", net.lay(), 2);
        due.is("wipe() behind lay()", net.wipe(), 10);
        due.is("what is laid stays", net.count(0), 2);
    }
}
