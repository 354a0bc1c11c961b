/** Promises 16 to 21 and their terms: each sentence that names a boundary, by its words. */
public final class StrandEdgesTest {
    private static final int BAD = RoofNet.BAD, NO = RoofNet.NO, NONE = RoofNet.NONE;
    private static final Due due = new Due();
    private static final Twins twins = new Twins(due);

    public static void main(String[] args) {
        numbersOfStrand();
        numbersOfTheOthers();
        notWhileSomeJointIsLoose();
        noneOfOneThatIsDown();
        noneWhereNothingIsWanted();
        theWholeRootCut();
        leastAndGreatestLengths();
        offAndSlack();
        missOfNoneAndOfAll();
        neededOrNot();
        settledBehindNone();
        settledBehind60();
        settledBehindNoMoreThan60();
        neverSettled();
        betterIsLess();
        betterOfSeveral();
        betterOfTheLast();
        greatestOfSeveral();
        greatestOfNone();
        askingChangesNothing();
        due.end();
    }

    private static RoofNet full() {
        return Due.laid(Nets.FULL);
    }

    private static RoofNet loose() {
        return Twins.fresh(Nets::layLoose);
    }

    /** "JOINTS, STRANDS such as there are"; what = 0 to 8. */
    private static void numbersOfStrand() {
        for (int what = 0; what <= 8; what++) {
            int asked = what;
            twins.range("strand(s, " + what + ")", 0, 4, BAD, s -> new RoofNet().strand(s, asked));
            twins.range("strand(s, " + what + ") of many", 0, 13, BAD, s -> full().strand(s, asked));
            twins.range("loose: strand(s, " + what + ")", 0, 1, BAD, s -> loose().strand(s, asked));
            due.is("strand(0, " + what + ") without strands", Due.laid("f1,1,1;").strand(0, what), BAD);
        }
        twins.range("strand(4, what)", 0, 8, BAD, what -> new RoofNet().strand(4, what));
        twins.range("loose: strand(1, what)", 0, 8, BAD, what -> loose().strand(1, what));
    }

    /** what = 0 or 1; "Of several the first in this order": BAD ahead of NO and of NONE. */
    private static void numbersOfTheOthers() {
        twins.range("settle(what)", 0, 1, BAD, what -> Due.laid(Nets.NEAR).settle(what));
        twins.range("never settled: settle(what)", 0, 1, BAD, what -> new RoofNet().settle(what));
        twins.range("loose: settle(what)", 0, 1, BAD, what -> loose().settle(what));
        twins.range("better(what)", 0, 1, BAD, what -> new RoofNet().better(what));
        twins.range("none better: better(what)", 0, 1, BAD, what -> Due.laid(Nets.NEAR).better(what));
        twins.range("loose: better(what)", 0, 1, BAD, what -> loose().better(what));
        twins.range("greatest(what)", 0, 1, BAD, what -> new RoofNet().greatest(what));
        twins.range("none hangs: greatest(what)", 0, 1, BAD, what -> Due.laid("f1,1,1;").greatest(what));
        twins.range("loose: greatest(what)", 0, 1, BAD, what -> loose().greatest(what));
    }

    /** "NO: some FREE JOINT is not HUNG"; NO comes ahead of NONE. */
    private static void notWhileSomeJointIsLoose() {
        for (int what = 5; what <= 8; what++) {
            int asked = what;
            twins.leavesAll("loose: strand(0, " + what + ")", Nets::layLoose, NO, net -> net.strand(0, asked));
            twins.leavesAll("loose and down: strand(1, " + what + ")", Nets::layLoose, NO,
                net -> net.strand(1, asked));
            twins.leavesAll("loose, nothing wanted: strand(0, " + what + ")", net -> {
                Nets.layLoose(net);
                net.want(0, 0);
            }, NO, net -> net.strand(0, asked));
        }
        int[] hangs = {0, 2, 3, 7, 0};
        int[] isDown = {0, 1, 3, 5, 1};
        for (int what = 0; what <= 4; what++) {
            due.is("loose: strand(0, " + what + ")", loose().strand(0, what), hangs[what]);
            due.is("loose: strand(1, " + what + ")", loose().strand(1, what), isDown[what]);
        }
        twins.leavesAll("loose: slack()", Nets::layLoose, NO, RoofNet::slack);
        twins.leavesAll("loose: miss()", Nets::layLoose, NO, RoofNet::miss);
        for (int what = 0; what <= 1; what++) {
            int asked = what;
            twins.leavesAll("loose: settle(" + what + ")", Nets::layLoose, NO, net -> net.settle(asked));
            twins.leavesAll("loose: better(" + what + ")", Nets::layLoose, NO, net -> net.better(asked));
            twins.leavesAll("loose: greatest(" + what + ")", Nets::layLoose, NO, net -> net.greatest(asked));
            due.is("loose, none hangs: greatest(" + what + ")", Due.laid("u9;").greatest(what), NO);
        }
        RoofNet net = loose();
        net.down(1, 0);
        due.is("hung again: strand(0, 5)", net.strand(0, 5), 500);
        due.is("hung again: strand(1, 8)", net.strand(1, 8), 1);
        due.is("hung again: slack()", net.slack(), 3);
        due.is("hung again: miss()", net.miss(), 600);
    }

    /** "NONE (5 to 8): it is DOWN". */
    private static void noneOfOneThatIsDown() {
        RoofNet net = Due.laid(Nets.NEAR);
        net.down(0, 1);
        int[] due0 = {0, 1, 3, 51, 1, NONE, NONE, NONE, NONE};
        for (int what = 0; what <= 8; what++) {
            int asked = what;
            due.is("down: strand(0, " + what + ")", net.strand(0, what), due0[what]);
            if (what >= 5) {
                twins.leavesAll("down: strand(3, " + what + ")", Nets::changeFirst, NONE, one -> one.strand(3, asked));
            }
        }
        net.down(0, 0);
        due.is("hung again: strand(0, 5)", net.strand(0, 5), 5099);
        due.is("hung again: strand(0, 6)", net.strand(0, 6), 3 * 5099);
        due.is("hung again: strand(0, 7)", net.strand(0, 7), 1);
        due.is("hung again: strand(0, 8)", net.strand(0, 8), 0);
    }

    /** "NONE: (7) nothing is WANTED". */
    private static void noneWhereNothingIsWanted() {
        RoofNet net = Due.laid(Nets.NEAR);
        net.want(0, 0);
        due.is("nothing wanted: strand(0, 5)", net.strand(0, 5), 5099);
        due.is("nothing wanted: strand(0, 6)", net.strand(0, 6), 3 * 5099);
        due.is("nothing wanted: strand(0, 7)", net.strand(0, 7), NONE);
        due.is("nothing wanted: strand(0, 8)", net.strand(0, 8), 0);
        due.is("nothing wanted: slack()", net.slack(), 0);
        due.is("nothing wanted: miss()", net.miss(), 1);
        net.want(0, 1);
        due.is("1 wanted: strand(0, 7)", net.strand(0, 7), 4999);
    }

    /** "LENGTH: the whole root, cut, of the squares of the differences". */
    private static void theWholeRootCut() {
        for (int x = 0; x <= 60; x += 3) {
            RoofNet net = Due.laid("f0,0,0;f" + x + ",1,0;s0,1,1,0;");
            for (int y = 1; y <= 60; y++) {
                net.move(1, 1, y);
                int z = (7 * x + 3 * y) % 61;
                net.move(1, 2, z);
                long squares = 10000L * (x * x + y * y + z * z);
                long length = net.strand(0, 5);
                String at = " at " + x + ", " + y + ", " + z;
                due.is("no longer than the root" + at, length * length <= squares ? 1 : 0, 1);
                due.is("no shorter than the root, cut" + at, (length + 1) * (length + 1) > squares ? 1 : 0, 1);
            }
        }
        // A third along X is 33 hundredths, from 1 it is 67: lengths are by hundredths.
        RoofNet thirds = Due.laid("f0,0,0;f1,0,0;u9;s0,2,2,0;s1,2,1,0;");
        due.is("a third", thirds.strand(0, 5), 33);
        due.is("two thirds", thirds.strand(1, 5), 67);
    }

    private static void leastAndGreatestLengths() {
        RoofNet least = Due.laid("f60,60,60;f60,60,60;s0,1,5,99;");
        due.is("length 0", least.strand(0, 5), 0);
        due.is("pull 0", least.strand(0, 6), 0);
        due.is("off by all that is wanted", least.strand(0, 7), 9900);
        RoofNet most = Due.laid("f0,60,0;f60,0,60;s0,1,5,1;");
        due.is("across all", most.strand(0, 5), 10392);
        due.is("its pull", most.strand(0, 6), 51960);
        due.is("its off", most.strand(0, 7), 10292);
        RoofNet thin = Due.laid("f0,60,0;f60,0,60;s0,1,1,0;");
        due.is("a pull by 1", thin.strand(0, 6), 10392);
        RoofNet chain = Due.laid("f0,0,0;u0;u0;u0;u0;u0;s0,1,1,0;s1,2,1,0;s2,3,1,0;s3,4,1,0;s4,5,1,0;");
        for (int s = 0; s < 5; s++) {
            due.is("in a row, drawn down: strand(" + s + ", 5)", chain.strand(s, 5), 100 * (45 - 9 * s));
        }
    }

    /** "OFF: LENGTH less 100 W, made positive. SLACK is such a one with LENGTH below 100 W." */
    private static void offAndSlack() {
        RoofNet net = Due.laid(Nets.NEAR);
        int[] offs = {1, 1, 0, 0};
        for (int s = 0; s < 4; s++) {
            due.is("near: strand(" + s + ", 7)", net.strand(s, 7), offs[s]);
        }
        due.is("a hundredth below alone is slack", net.slack(), 1);
        due.is("near: miss()", net.miss(), 2);
        net.want(1, 50);
        due.is("slack() of two", net.slack(), 3);
        net.want(3, 51);
        due.is("slack() of three", net.slack(), 11);
        net.down(0, 1);
        due.is("one that is down is not slack", net.slack(), 10);
        due.is("nor is it missed", net.miss(), 99 + 100);
    }

    /** "MISS: OFF of all such ones, together." */
    private static void missOfNoneAndOfAll() {
        RoofNet bare = Due.laid("f1,1,1;");
        due.is("miss() without strands", bare.miss(), 0);
        due.is("slack() without strands", bare.slack(), 0);
        StringBuilder text = new StringBuilder("f9,9,9;".repeat(6));
        int strands = 0;
        for (int a = 0; a < 6; a++) {
            for (int b = a + 1; b < 6 && strands < 14; b++) {
                text.append('s').append(a).append(',').append(b).append(",1,99;");
                strands++;
            }
        }
        RoofNet all = Due.laid(text.toString());
        due.is("miss() of fourteen", all.miss(), 14 * 9900);
        due.is("slack() of fourteen", all.slack(), 16383);
        for (int s = 0; s < 13; s++) {
            all.down(s, 1);
        }
        due.is("miss() of the last", all.miss(), 9900);
        due.is("slack() of the last", all.slack(), 8192);
        all.down(13, 1);
        due.is("miss() with all down", all.miss(), 0);
        due.is("slack() with all down", all.slack(), 0);
    }

    /** "NEEDED is a STRAND that hangs without which some FREE JOINT would not be HUNG". */
    private static void neededOrNot() {
        RoofNet fixed = Due.laid("f0,0,0;f1,1,1;s0,1,1,0;");
        due.is("between fixed ones", fixed.strand(0, 8), 0);
        RoofNet one = Due.laid("f0,0,0;u9;s0,1,1,0;");
        due.is("the only one of a free joint", one.strand(0, 8), 1);
        RoofNet two = Due.laid("f0,0,0;u9;f1,1,1;s0,1,1,0;s1,2,1,0;");
        due.is("one of two", two.strand(0, 8), 0);
        two.down(1, 1);
        due.is("the one that is left", two.strand(0, 8), 1);
        due.is("the one that is down", two.strand(1, 8), NONE);
        // A row of three free joints with fixed ones at both ends, and a fourth that hangs by the middle one.
        RoofNet tree = Due.laid("f0,0,0;f9,9,9;u9;u9;u9;u9;s0,2,1,0;s2,3,1,0;s3,4,1,0;s4,1,1,0;s3,5,1,0;");
        int[] needed = {0, 0, 0, 0, 1};
        for (int s = 0; s < 5; s++) {
            due.is("tree: strand(" + s + ", 8)", tree.strand(s, 8), needed[s]);
        }
        tree.down(3, 1);
        for (int s = 0; s < 5; s++) {
            due.is("tree, one end down: strand(" + s + ", 8)", tree.strand(s, 8), s == 3 ? NONE : 1);
        }
    }

    /** "ROUNDS SETTLE behind n (0 to 60), if behind n of them the next one changes nothing, for the least such n." */
    private static void settledBehindNone() {
        RoofNet bare = Due.laid("f1,1,1;");
        due.is("settle(0) without strands", bare.settle(0), 0);
        due.is("settle(1) without strands", bare.settle(1), 0);
        RoofNet asWanted = Due.laid("f0,0,0;f5,0,0;s0,1,3,5;");
        due.is("as wanted: settle(0)", asWanted.settle(0), 0);
        due.is("as wanted: settle(1)", asWanted.settle(1), 0);
        RoofNet atBothEnds = Due.laid("f0,0,0;f5,0,0;f0,5,0;s0,1,5,4;s0,2,1,7;");
        due.is("at both ends: settle(0)", atBothEnds.settle(0), 0);
        due.is("at both ends: settle(1)", atBothEnds.settle(1), 300);
        for (int q = 1; q <= 5; q++) {
            RoofNet up = Due.laid("f0,0,0;f5,0,0;s0,1," + q + ",4;");
            due.is("up from " + q + ": settle(0)", up.settle(0), 5 - q);
            RoofNet down = Due.laid("f0,0,0;f5,0,0;s0,1," + q + ",6;");
            due.is("down from " + q + ": settle(0)", down.settle(0), q - 1);
            due.is("down from " + q + ": settle(1)", down.settle(1), 100);
        }
    }

    /** "(0 to 60)", "(behind 60 the 61st)": the last number that there is, and each below it. */
    private static void settledBehind60() {
        RoofNet net = Due.laid(Nets.SETTLES_BEHIND_60);
        for (int done = 0; done <= 60; done++) {
            due.is("behind " + done + " rounds: settle(0)", net.settle(0), 60 - done);
            due.is("behind " + done + " rounds: settle(1)", net.settle(1), 1279);
            due.is("round " + (done + 1), net.round(1), done < 60 ? 1 : 0);
        }
        due.is("miss() then", net.miss(), 1279);
        RoofNet byTwenty = Due.laid(Nets.SETTLES_BEHIND_60);
        for (int done = 20; done <= 60; done += 20) {
            due.is("rounds up to " + done, byTwenty.round(20), 20);
        }
        due.is("the 61st changes nothing", byTwenty.round(20), 0);
        twins.leavesAll("settled behind 60: settle(0)", one -> {
            Due.write(one, Nets.SETTLES_BEHIND_60);
            one.lay();
        }, 60, one -> one.settle(0));
    }

    /** "NONE: they do not to 60": rounds that come to rest behind 61 and more are not told. */
    private static void settledBehindNoMoreThan60() {
        RoofNet net = Due.laid(Nets.SETTLES_BEHIND_64);
        for (int done = 0; done <= 64; done++) {
            int left = 64 - done;
            due.is("of 64, behind " + done + ": settle(0)", net.settle(0), left <= 60 ? left : NONE);
            due.is("of 64, behind " + done + ": settle(1)", net.settle(1), left <= 60 ? 6733 : NONE);
            due.is("of 64, round " + (done + 1), net.round(1), left > 0 ? 1 : 0);
        }
        due.is("of 64, miss() then", net.miss(), 6733);
        twins.leavesAll("settled behind 61: settle(0)", one -> {
            Due.write(one, Nets.SETTLES_BEHIND_64);
            one.lay();
            one.round(3);
        }, NONE, one -> one.settle(0));
    }

    /** "NONE: they do not to 60." */
    private static void neverSettled() {
        due.is("never: settle(0)", new RoofNet().settle(0), NONE);
        due.is("never: settle(1)", new RoofNet().settle(1), NONE);
        twins.leavesAll("never: settle(0)", net -> net.load(4, 3), NONE, net -> net.settle(0));
    }

    /** "by which MISS is least, and less than it is"; "NONE: there is none." */
    private static void betterIsLess() {
        due.is("as much alone is not better", Due.laid(Nets.NEAR).better(0), NONE);
        due.is("as much alone is not better: miss", Due.laid(Nets.NEAR).better(1), NONE);
        due.is("better(0) without strands", Due.laid("f1,1,1;").better(0), NONE);
        RoofNet none = Due.laid("f0,0,0;f60,0,0;u9;s0,2,1,0;s1,2,1,0;");
        due.is("nothing is wanted", none.better(0), NONE);
        none.want(0, 30);
        due.is("all is as wanted", none.better(0), NONE);
        none.want(0, 29);
        // At 30 it is 100 off; 20 and 40, the next places, are more.
        due.is("each change is worse", none.better(0), NONE);
        none.want(0, 25);
        // 20 is 500 off as 30 is.
        due.is("as much on the other side is not better", none.better(0), NONE);
        none.want(0, 24);
        due.is("less on the other side is", none.better(0), 2);
        due.is("less on the other side is: miss", none.better(1), 400);
        none.down(1, 1);
        due.is("alone it can't be better", none.better(0), NONE);
    }

    /** "of several the first (by the STRAND, then the DENSITY)". */
    private static void betterOfSeveral() {
        // With strand 1 of 4 joint 2 is at 48, with 5 at 50: both 100 off.
        RoofNet two = Due.laid("f0,0,0;f60,0,0;u9;s0,2,1,49;s1,2,1,0;");
        due.is("the lower density of two", two.better(0), 14);
        due.is("the lower density of two: miss", two.better(1), 100);
        // Strand 0 of 4 or strand 1 of 1: joint 2 is at 20 either way.
        RoofNet strands = Due.laid("f0,0,0;f60,0,0;u9;s0,2,2,20;s1,2,2,0;");
        due.is("the lower strand of two", strands.better(0), 4);
        due.is("the lower strand of two: miss", strands.better(1), 0);
        // The same with the strands the other way: the least is what counts, then the strand.
        RoofNet turned = Due.laid("f0,0,0;f60,0,0;u9;s1,2,2,0;s0,2,2,20;");
        due.is("the lower strand, turned", turned.better(0), 1);
        RoofNet own = Due.laid("f0,0,0;f60,0,0;u9;s0,2,5,0;s1,2,1,1;");
        due.is("from 5 to 1, the first of the first", own.better(0), 1);
        due.is("from 5 to 1: miss", own.better(1), 2900);
    }

    /** The last strand of fourteen and the greatest density: 10 times 13 and 5. */
    private static void betterOfTheLast() {
        StringBuilder text = new StringBuilder("f0,0,0;".repeat(5) + "f60,0,0;u9;");
        int strands = 0;
        for (int a = 0; a < 6; a++) {
            for (int b = a + 1; b < 6 && strands < 12; b++) {
                text.append('s').append(a).append(',').append(b).append(",1,0;");
                strands++;
            }
        }
        text.append("s0,6,1,0;s5,6,1,1;");
        RoofNet net = Due.laid(text.toString());
        due.is("the last strand", net.better(0), 135);
        due.is("the last strand: miss", net.better(1), 900);
        due.is("its density stays", net.strand(13, 2), 1);
        net.density(12, 5);
        due.is("the one ahead of it", net.better(0), 121);
        net.down(12, 1);
        due.is("no more when it is down", net.better(0), NONE);
    }

    /** "The STRAND that hangs of the greatest LENGTH (what = 0), PULL (1), of several the lowest." */
    private static void greatestOfSeveral() {
        RoofNet net = Due.laid("f0,0,0;f6,0,0;f0,6,0;f0,0,3;s0,3,5,0;s0,2,1,0;s0,1,2,0;s1,2,1,0;");
        due.is("the longest is the last", net.greatest(0), 3);
        due.is("the greatest pull is the first", net.greatest(1), 0);
        net.down(3, 1);
        due.is("the lower of two like ones", net.greatest(0), 1);
        net.density(0, 4);
        due.is("the lower of two like pulls", net.greatest(1), 0);
        net.density(0, 3);
        due.is("the greater pull", net.greatest(1), 2);
        net.down(0, 1);
        net.down(1, 1);
        due.is("the one that hangs", net.greatest(0), 2);
        RoofNet points = Due.laid("f1,1,1;f1,1,1;f1,1,1;s0,1,1,0;s1,2,5,0;");
        due.is("lengths of 0", points.greatest(0), 0);
        due.is("pulls of 0", points.greatest(1), 0);
        points.down(0, 1);
        due.is("a length of 0 alone", points.greatest(0), 1);
        RoofNet full = full();
        for (int s = 0; s < 13; s++) {
            full.density(s, 1);
        }
        full.move(4, 0, 60);
        full.move(4, 1, 60);
        full.move(4, 2, 60);
        full.density(13, 2);
        int greatest = full.greatest(1);
        int most = 0;
        int first = NONE;
        for (int s = 0; s < 14; s++) {
            if (full.strand(s, 6) > most) {
                most = full.strand(s, 6);
                first = s;
            }
        }
        due.is("the greatest pull of fourteen", greatest, first);
    }

    /** "NONE: none hangs." */
    private static void greatestOfNone() {
        for (int what = 0; what <= 1; what++) {
            int asked = what;
            due.is("greatest(" + what + ") without strands", Due.laid("f1,1,1;").greatest(what), NONE);
            twins.leavesAll("all down: greatest(" + what + ")", net -> {
                Due.write(net, "f0,0,0;f1,1,1;s0,1,1,0;");
                net.lay();
                net.down(0, 1);
            }, NONE, net -> net.greatest(asked));
        }
    }

    private static void askingChangesNothing() {
        for (int what = 0; what <= 8; what++) {
            int asked = what;
            int answer = Twins.fresh(Nets::changeFirst).strand(2, what);
            twins.leavesAll("strand(2, " + what + ")", Nets::changeFirst, answer, net -> net.strand(2, asked));
        }
        Twins.Call[] calls = {RoofNet::slack, RoofNet::miss, net -> net.settle(0), net -> net.settle(1),
            net -> net.better(0), net -> net.better(1), net -> net.greatest(0), net -> net.greatest(1)};
        for (int i = 0; i < calls.length; i++) {
            int answer = calls[i].on(Twins.fresh(Nets::changeFirst));
            twins.leavesAll("question " + i, Nets::changeFirst, answer, calls[i]);
            answer = calls[i].on(Twins.fresh(Nets::layFull));
            twins.leavesAll("question " + i + " of many", Nets::layFull, answer, calls[i]);
        }
        Twins.Call[] bad = {net -> net.strand(5, 0), net -> net.strand(-1, 5), net -> net.strand(0, 9),
            net -> net.strand(0, -1), net -> net.settle(2), net -> net.settle(-1), net -> net.better(2),
            net -> net.better(-1), net -> net.greatest(2), net -> net.greatest(-1)};
        for (int i = 0; i < bad.length; i++) {
            twins.leavesAll("bad question " + i, Nets::changeFirst, BAD, bad[i]);
        }
    }
}
