/** Promises 22 to 24 and their terms: each sentence that names a boundary, by its words. */
public final class RollEdgesTest {
    private static final int BAD = RoofNet.BAD, NO = RoofNet.NO, NONE = RoofNet.NONE;
    private static final Due due = new Due();
    private static final Twins twins = new Twins(due);
    /** Pieces of 5099 and of 4801, 9900 together. */
    private static final String TWO = "f0,0,0;f50,10,0;f48,1,0;s0,1,1,0;s0,2,1,0;";
    /** Fourteen strands of length 1. */
    private static final String FOURTEEN = fourteen();

    public static void main(String[] args) {
        numbersOfAll();
        notWhileSomeJointIsLoose();
        aPieceLongerThanARoll();
        noneHangs();
        piecesOf0();
        asMuchIsLeft();
        longestFirst();
        likeOnesByNumber();
        aRollForEach();
        fewestBelowFirstFit();
        fewestAsFirstFit();
        fewestOfTwelve();
        fewestByAHundredth();
        nothingIsLeftOfALargerNet();
        downIsNotCut();
        counts();
        askingChangesNothing();
        due.end();
    }

    private static String fourteen() {
        StringBuilder text = new StringBuilder("f0,0,0;".repeat(3) + "f1,0,0;".repeat(5));
        for (int s = 0; s < 14; s++) {
            text.append('s').append(s % 3).append(',').append(3 + s / 3).append(",1,0;");
        }
        return text.toString();
    }

    private static RoofNet full() {
        return Due.laid(Nets.FULL);
    }

    private static RoofNet loose() {
        return Twins.fresh(Nets::layLoose);
    }

    private static void rollsAre(String name, RoofNet net, int firstFit, int fewest, int left) {
        due.is(name + ": rolls(0)", net.rolls(0), firstFit);
        due.is(name + ": rolls(1)", net.rolls(1), fewest);
        due.is(name + ": rolls(2)", net.rolls(2), left);
    }

    private static void rollsOf(String name, RoofNet net, int... rolls) {
        for (int s = 0; s < rolls.length; s++) {
            due.is(name + ": rollOf(" + s + ")", net.rollOf(s), rolls[s]);
        }
    }

    /** rolls(0 to 2), rollOf a STRAND that there is, count(0 to 8): BAD else, ahead of NO and NONE. */
    private static void numbersOfAll() {
        twins.range("rolls(what)", 0, 2, BAD, what -> new RoofNet().rolls(what));
        twins.range("no way: rolls(what)", 0, 2, BAD, what -> Due.laid(TWO + "r1,0;").rolls(what));
        twins.range("loose: rolls(what)", 0, 2, BAD, what -> loose().rolls(what));
        twins.range("rollOf(s)", 0, 4, BAD, s -> new RoofNet().rollOf(s));
        twins.range("rollOf(s) of many", 0, 13, BAD, s -> full().rollOf(s));
        twins.range("no way: rollOf(s)", 0, 1, BAD, s -> Due.laid(TWO + "r1,0;").rollOf(s));
        twins.range("loose: rollOf(s)", 0, 1, BAD, s -> loose().rollOf(s));
        due.is("rollOf(0) without strands", Due.laid("f1,1,1;").rollOf(0), BAD);
        twins.range("count(what)", 0, 8, BAD, what -> new RoofNet().count(what));
        twins.range("loose: count(what)", 0, 8, BAD, what -> loose().count(what));
    }

    /** "NO: some FREE JOINT is not HUNG"; it comes ahead of NONE. */
    private static void notWhileSomeJointIsLoose() {
        for (int what = 0; what <= 2; what++) {
            int asked = what;
            twins.leavesAll("loose: rolls(" + what + ")", Nets::layLoose, NO, net -> net.rolls(asked));
            due.is("loose, no way: rolls(" + what + ")", Due.laid(TWO + "u9;r1,0;").rolls(what), NO);
            due.is("loose, none hangs: rolls(" + what + ")", Due.laid("u9;").rolls(what), NO);
        }
        twins.leavesAll("loose: rollOf(0)", Nets::layLoose, NO, net -> net.rollOf(0));
        twins.leavesAll("loose and down: rollOf(1)", Nets::layLoose, NO, net -> net.rollOf(1));
        due.is("loose, no way: rollOf(0)", Due.laid(TWO + "u9;r1,0;").rollOf(0), NO);
    }

    /** "There is no way, if a piece is longer than a ROLL." */
    private static void aPieceLongerThanARoll() {
        String one = "f0,0,0;f50,10,0;s0,1,1,0;";
        rollsAre("a piece as long as a roll", Due.laid(one + "r51,1;"), 1, 1, 0);
        rollsAre("a hundredth shorter", Due.laid(one + "r51,0;"), 1, 1, 1);
        rollsAre("a hundredth longer", Due.laid(one + "r51,2;"), NONE, NONE, NONE);
        due.is("as long as a roll: rollOf(0)", Due.laid(one + "r51,1;").rollOf(0), 0);
        due.is("a hundredth longer: rollOf(0)", Due.laid(one + "r51,2;").rollOf(0), NONE);
        // Length 4950 and 50 lost.
        String most = "f0,0,0;f49,7,1;s0,1,1,0;";
        rollsAre("as much lost as can be", Due.laid(most + "r50,50;"), 1, 1, 0);
        rollsAre("on a shorter roll", Due.laid(most + "r49,50;"), NONE, NONE, NONE);
        rollsAre("nothing lost", Due.laid(most + "r50,0;"), 1, 1, 50);
        RoofNet across = Due.laid("f0,0,0;f60,60,60;s0,1,1,0;r99,0;");
        rollsAre("longer than the longest roll", across, NONE, NONE, NONE);
        RoofNet second = Due.laid("f0,0,0;f1,0,0;f0,3,0;s0,1,1,0;s0,2,1,0;r2,0;");
        rollsAre("the second of two is longer", second, NONE, NONE, NONE);
        rollsOf("the second of two is longer", second, NONE, NONE);
        twins.leavesAll("no way: rolls(0)", RollEdgesTest::layNoWay, NONE, net -> net.rolls(0));
        twins.leavesAll("no way: rolls(1)", RollEdgesTest::layNoWay, NONE, net -> net.rolls(1));
        twins.leavesAll("no way: rolls(2)", RollEdgesTest::layNoWay, NONE, net -> net.rolls(2));
        twins.leavesAll("no way: rollOf(0)", RollEdgesTest::layNoWay, NONE, net -> net.rollOf(0));
        twins.leavesAll("no way: rollOf(1)", RollEdgesTest::layNoWay, NONE, net -> net.rollOf(1));
        second.move(2, 1, 2);
        rollsAre("there is a way again", second, 2, 2, 100);
        rollsOf("there is a way again", second, 1, 0);
    }

    private static void layNoWay(RoofNet net) {
        Due.write(net, TWO + "r50,0;");
        net.lay();
        net.density(0, 2);
        net.want(1, 9);
    }

    /** "so there is a ROLL at least, if a STRAND hangs": without one there is none, and none is needed. */
    private static void noneHangs() {
        rollsAre("without strands", Due.laid("f1,1,1;"), 0, 0, 0);
        RoofNet net = Due.laid(TWO + "r99,0;");
        net.down(0, 1);
        rollsAre("one hangs", net, 1, 1, 9900 - 4801);
        rollsOf("one hangs", net, NONE, 0);
        net.down(1, 1);
        rollsAre("none hangs", net, 0, 0, 0);
        rollsOf("none hangs", net, NONE, NONE);
    }

    /** "(one of 0, too: so there is a ROLL at least, if a STRAND hangs)". */
    private static void piecesOf0() {
        RoofNet one = Due.laid("f1,1,1;f1,1,1;s0,1,1,0;r1,0;");
        rollsAre("a piece of 0", one, 1, 1, 100);
        rollsOf("a piece of 0", one, 0);
        RoofNet lost = Due.laid("f1,1,1;f1,1,1;s0,1,1,0;r1,50;");
        rollsAre("a length of 0, half a roll lost", lost, 1, 1, 50);
        // Behind a piece as long as a roll a piece of 0 goes on the same roll, though nothing is left.
        RoofNet behind = Due.laid("f1,1,1;f1,1,1;f1,1,2;s0,1,1,0;s0,2,1,0;r1,0;");
        rollsAre("a piece of 0 where nothing is left", behind, 1, 1, 0);
        rollsOf("a piece of 0 where nothing is left", behind, 0, 0);
        RoofNet many = Due.laid(FOURTEEN.replace("f1,0,0;", "f0,0,0;") + "r1,50;");
        rollsAre("fourteen halves", many, 7, 7, 0);
        rollsOf("fourteen halves", many, 0, 0, 1, 1, 2, 2, 3, 3, 4, 4, 5, 5, 6, 6);
        rollsAre("fourteen of 0", Due.laid(FOURTEEN.replace("f1,0,0;", "f0,0,0;") + "r1,0;"), 1, 1, 100);
        rollsAre("fourteen, 34 lost", Due.laid(FOURTEEN.replace("f1,0,0;", "f0,0,0;") + "r1,34;"), 7, 7, 700 - 14 * 34);
        rollsAre("fourteen, 33 lost", Due.laid(FOURTEEN.replace("f1,0,0;", "f0,0,0;") + "r1,33;"), 5, 5, 500 - 14 * 33);
    }

    /** "each from the first ROLL (0, 1, ..) on which as much is left". */
    private static void asMuchIsLeft() {
        RoofNet just = Due.laid(TWO + "r99,0;");
        rollsAre("just as much is left", just, 1, 1, 0);
        rollsOf("just as much is left", just, 0, 0);
        // Now 5099 and 4802.
        just.move(2, 2, 1);
        rollsAre("a hundredth too little is left", just, 2, 2, 2 * 9900 - 9901);
        rollsOf("a hundredth too little is left", just, 0, 1);
        rollsAre("a hundredth lost of each", Due.laid(TWO + "r99,1;"), 2, 2, 2 * 9900 - 9902);
        // 7, 6, 4, 3 from rolls of 10: the 4 goes behind the 6, the 3 to the first.
        RoofNet four = Due.laid("f0,0,0;f6,0,0;f0,7,0;f0,0,3;f4,0,0;s0,1,1,0;s0,2,1,0;s0,3,1,0;s0,4,1,0;r10,0;");
        rollsAre("two full rolls", four, 2, 2, 0);
        rollsOf("two full rolls", four, 1, 0, 0, 1);
        // 6, 6, 2 from rolls of 9: there is room for the 2 on both, it goes on the first.
        RoofNet first = Due.laid("f0,0,0;f6,0,0;f0,6,0;f0,0,2;s0,1,1,0;s0,2,1,0;s0,3,1,0;r9,0;");
        rollsAre("the first of two with room", first, 2, 2, 400);
        rollsOf("the first of two with room", first, 0, 1, 0);
    }

    /** "the longest piece first". */
    private static void longestFirst() {
        RoofNet rising = Due.laid("f0,0,0;f1,0,0;f2,0,0;f3,0,0;f4,0,0;s0,1,1,0;s0,2,1,0;s0,3,1,0;s0,4,1,0;r5,0;");
        rollsAre("1, 2, 3, 4", rising, 2, 2, 0);
        rollsOf("1, 2, 3, 4", rising, 0, 1, 1, 0);
        RoofNet falling = Due.laid("f0,0,0;f1,0,0;f2,0,0;f3,0,0;f4,0,0;s0,4,1,0;s0,3,1,0;s0,2,1,0;s0,1,1,0;r5,0;");
        rollsAre("4, 3, 2, 1", falling, 2, 2, 0);
        rollsOf("4, 3, 2, 1", falling, 0, 1, 1, 0);
        // 6, 2, 3 from rolls of 9: the 3 takes what the 6 leaves, though the 2 is told ahead of it.
        RoofNet mixed = Due.laid("f0,0,0;f6,0,0;f2,0,0;f3,0,0;s0,1,1,0;s0,2,1,0;s0,3,1,0;r9,0;");
        rollsAre("6, 2, 3", mixed, 2, 2, 700);
        rollsOf("6, 2, 3", mixed, 0, 1, 0);
        // 4801 and 5099: longer by a little is first.
        RoofNet near = Due.laid("f0,0,0;f50,10,0;f48,1,0;s0,2,1,0;s0,1,1,0;r60,0;");
        rollsOf("the longer one is told last", near, 1, 0);
    }

    /** "of like ones that of the lower number". */
    private static void likeOnesByNumber() {
        RoofNet net = Due.laid(FOURTEEN + "r3,0;");
        rollsAre("fourteen from rolls of three", net, 5, 5, 100);
        rollsOf("fourteen from rolls of three", net, 0, 0, 0, 1, 1, 1, 2, 2, 2, 3, 3, 3, 4, 4);
        net.down(0, 1);
        rollsOf("without the first", net, NONE, 0, 0, 0, 1, 1, 1, 2, 2, 2, 3, 3, 3, 4);
    }

    private static void aRollForEach() {
        RoofNet net = Due.laid(FOURTEEN + "r1,0;");
        rollsAre("fourteen rolls, used up", net, 14, 14, 0);
        rollsOf("fourteen rolls, used up", net, 0, 1, 2, 3, 4, 5, 6, 7, 8, 9, 10, 11, 12, 13);
        RoofNet wide = Due.laid(FOURTEEN + "r2,1;");
        rollsAre("fourteen rolls, one each", wide, 14, 14, 14 * 99);
        RoofNet one = Due.laid(FOURTEEN + "r14,0;");
        rollsAre("all fourteen from one", one, 1, 1, 0);
        rollsAre("thirteen from one", Due.laid(FOURTEEN + "r13,0;"), 2, 2, 1200);
    }

    /** "FEWEST: the fewest ROLLS from which all can be cut." */
    private static void fewestBelowFirstFit() {
        // 4, 4, 3, 3, 3, 3 from rolls of 10: first fit puts both fours on one.
        String six = "f0,0,0;f4,0,0;f0,4,0;f3,0,0;f0,3,0;f0,0,3;f0,0,6;"
            + "s0,1,1,0;s0,2,1,0;s0,3,1,0;s0,4,1,0;s0,5,1,0;s5,6,1,0;";
        rollsAre("six", Due.laid(six + "r10,0;"), 3, 2, 1000);
        rollsOf("six", Due.laid(six + "r10,0;"), 0, 0, 1, 1, 1, 2);
        rollsAre("six, a hundredth lost of each", Due.laid(six + "r10,1;"), 3, 3, 3000 - 2006);
        rollsAre("six on longer rolls", Due.laid(six + "r11,0;"), 2, 2, 200);
        rollsAre("six on one", Due.laid(six + "r20,0;"), 1, 1, 0);
    }

    /** Two rolls would hold 4, 4, 4, 3, 3 by their sum and by their number, but no two and no three of them make 9. */
    private static void fewestAsFirstFit() {
        String five = "f0,0,0;f4,0,0;f0,4,0;f0,0,4;f3,0,0;f0,3,0;s0,4,1,0;s0,1,1,0;s0,2,1,0;s0,5,1,0;s0,3,1,0;";
        rollsAre("five on rolls of 9", Due.laid(five + "r9,0;"), 3, 3, 900);
        rollsOf("five on rolls of 9", Due.laid(five + "r9,0;"), 1, 0, 0, 2, 1);
        rollsAre("five on rolls of 10", Due.laid(five + "r10,0;"), 2, 2, 200);
        rollsAre("five on rolls of 10, a hundredth lost of each", Due.laid(five + "r10,1;"), 3, 3, 3000 - 1805);
    }

    /** Four of 4 and eight of 3 make four rolls of 10 without rest. */
    private static void fewestOfTwelve() {
        StringBuilder text = new StringBuilder("f0,0,0;f0,0,0;f4,0,0;f4,0,0;" + "f0,3,0;".repeat(4));
        for (int s = 0; s < 12; s++) {
            text.append('s').append(s % 2).append(',').append(2 + s / 2).append(",1,0;");
        }
        RoofNet net = Due.laid(text + "r10,0;");
        rollsAre("twelve", net, 5, 4, 1000);
        rollsOf("twelve", net, 0, 0, 1, 1, 2, 2, 2, 3, 3, 3, 4, 4);
        rollsAre("twelve, a hundredth lost of each", Due.laid(text + "r10,1;"), 5, 5, 5000 - 4012);
        net.down(11, 1);
        rollsAre("eleven", net, 5, 4, 1300);
        net.down(10, 1);
        rollsAre("ten", net, 4, 4, 600);
    }

    /** The fewest depend on a hundredth: two thirds and a third of a roll, more or less. */
    private static void fewestByAHundredth() {
        // Free joint 2 is 33 from joint 0 and 67 from joint 1, so both make a roll of 1.
        RoofNet net = Due.laid("f0,0,0;f1,0,0;u9;s0,2,2,0;s1,2,1,0;r1,0;");
        rollsAre("33 and 67", net, 1, 1, 0);
        RoofNet lost = Due.laid("f0,0,0;f1,0,0;u9;s0,2,2,0;s1,2,1,0;r1,1;");
        rollsAre("34 and 68", lost, 2, 2, 98);
        rollsOf("34 and 68", lost, 1, 0);
    }

    /** What was cut ahead, more pieces or shorter rolls, has no part in what is cut behind lay or down. */
    private static void nothingIsLeftOfALargerNet() {
        String six = "f0,0,0;f4,0,0;f0,4,0;f3,0,0;f0,3,0;f0,0,3;f0,0,6;"
            + "s0,1,1,0;s0,2,1,0;s0,3,1,0;s0,4,1,0;s0,5,1,0;s5,6,1,0;r10,0;";
        RoofNet fewer = Due.laid(FOURTEEN + "r1,0;");
        rollsAre("fourteen ahead", fewer, 14, 14, 0);
        layInstead(fewer, six);
        rollsAre("six behind fourteen", fewer, 3, 2, 1000);
        StringBuilder twelve = new StringBuilder("f0,0,0;f0,0,0;f4,0,0;f4,0,0;" + "f0,3,0;".repeat(4));
        for (int s = 0; s < 12; s++) {
            twelve.append('s').append(s % 2).append(',').append(2 + s / 2).append(",1,0;");
        }
        RoofNet longer = Due.laid(twelve + "r10,0;");
        rollsAre("twelve ahead", longer, 5, 4, 1000);
        // 36, 36 and four of 27 from rolls of 90: each piece is longer than a roll was ahead.
        layInstead(longer, "f0,0,0;f36,0,0;f0,36,0;f27,0,0;f0,27,0;f0,0,27;f0,0,54;"
            + "s0,1,1,0;s0,2,1,0;s0,3,1,0;s0,4,1,0;s0,5,1,0;s5,6,1,0;r90,0;");
        rollsAre("longer ones behind twelve", longer, 3, 2, 9000);
        // Seven pieces with one of 9, of which the other six are left when it is down.
        RoofNet down = Due.laid(six.replace("f0,0,6;", "f0,0,6;f9,0,0;").replace("r10", "s0,7,1,0;r10"));
        rollsAre("seven", down, 4, 3, 1100);
        down.down(6, 1);
        rollsAre("six of seven", down, 3, 2, 1000);
        down.down(6, 0);
        rollsAre("seven again", down, 4, 3, 1100);
    }

    private static void layInstead(RoofNet net, String text) {
        net.wipe();
        Due.write(net, text);
        due.is("lay() of " + text, net.lay() > 0 ? 1 : 0, 1);
    }

    /** "NONE: it is DOWN, there is no way." */
    private static void downIsNotCut() {
        RoofNet net = Due.laid(TWO + "r49,0;");
        rollsOf("the longer one does not fit", net, NONE, NONE);
        net.down(0, 1);
        rollsOf("it is down", net, NONE, 0);
        rollsAre("it is down", net, 1, 1, 99);
        net.down(0, 0);
        rollsOf("it hangs again", net, NONE, NONE);
        twins.leavesAll("down: rollOf(3)", Nets::changeFirst, NONE, one -> one.rollOf(3));
    }

    /** "How many: 0 JOINTS, 1 FREE ones, 2 STRANDS, 3 that hang, ..": the least and the most of each. */
    private static void counts() {
        int[] least = {1, 0, 0, 0, 0, 0, 9, 40, 10};
        int[] most = {10, 5, 14, 14, 5, 0, 200, 99, 50};
        RoofNet small = Due.laid("f60,0,60;");
        RoofNet large = full();
        for (int what = 0; what <= 8; what++) {
            due.is("small: count(" + what + ")", small.count(what), least[what]);
            due.is("large: count(" + what + ")", large.count(what), most[what]);
        }
        for (int s = 0; s < 14; s++) {
            large.down(s, 1);
        }
        due.is("strands, all down", large.count(2), 14);
        due.is("that hang, all down", large.count(3), 0);
        due.is("hung, all down", large.count(4), 0);
        due.is("changes that can be undone", large.count(5), 6);
        due.is("wipe()", large.wipe(), 200);
        due.is("letters, wiped", large.count(6), 0);
        due.is("joints, wiped", large.count(0), 10);
        due.is("R 1", Due.laid("u9;r1,0;").count(7), 1);
        due.is("E 0", Due.laid("u9;r1,0;").count(8), 0);
        due.is("hung of one that is loose", Due.laid("u9;").count(4), 0);
    }

    private static void askingChangesNothing() {
        Twins.Call[] calls = {net -> net.rolls(0), net -> net.rolls(1), net -> net.rolls(2), net -> net.rollOf(0),
            net -> net.rollOf(4), net -> net.count(0), net -> net.count(5), net -> net.count(8)};
        for (int i = 0; i < calls.length; i++) {
            int answer = calls[i].on(Twins.fresh(Nets::changeFirst));
            twins.leavesAll("question " + i, Nets::changeFirst, answer, calls[i]);
            answer = calls[i].on(Twins.fresh(Nets::layFull));
            twins.leavesAll("question " + i + " of many", Nets::layFull, answer, calls[i]);
        }
        Twins.Call[] bad = {net -> net.rolls(3), net -> net.rolls(-1), net -> net.rollOf(5), net -> net.rollOf(-1),
            net -> net.count(9), net -> net.count(-1)};
        for (int i = 0; i < bad.length; i++) {
            twins.leavesAll("bad question " + i, Nets::changeFirst, BAD, bad[i]);
            twins.leavesAll("bad question " + i + " while loose", Nets::layLoose, BAD, bad[i]);
        }
    }
}
