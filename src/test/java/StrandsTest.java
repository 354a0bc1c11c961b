/** Promises 16 to 21: strand, slack, miss, settle, better, greatest. */
public final class StrandsTest {
    private static final Due due = new Due();
    private static final String FIXED = "f0,0,0;f3,4,0;f0,0,2;f6,0,0;s0,1,2,4;s0,2,5,3;s0,3,1,6;";

    public static void main(String[] args) {
        strand();
        needed();
        slackAndMiss();
        settle();
        better();
        greatest();
        loose();
        due.end();
    }

    private static void strand() {
        RoofNet net = Due.laid(FIXED + "s1,2,3,0;");
        int[] first = {0, 1, 2, 4, 0, 500, 1000, 100, 0};
        for (int what = 0; what < first.length; what++) {
            due.is("strand(0, " + what + ")", net.strand(0, what), first[what]);
        }
        due.is("a root that is cut", net.strand(3, 5), 538);
        due.is("nothing is wanted", net.strand(3, 7), RoofNet.NONE);
        due.is("off of a slack one", net.strand(1, 7), 100);
        due.is("off of one as wanted", net.strand(2, 7), 0);
        due.is("strand(0, 9)", net.strand(0, 9), RoofNet.BAD);
        due.is("strand(0, -1)", net.strand(0, -1), RoofNet.BAD);
        due.is("strand(4, 0)", net.strand(4, 0), RoofNet.BAD);
        due.is("strand(-1, 0)", net.strand(-1, 0), RoofNet.BAD);
        net.down(0, 1);
        int[] down = {0, 1, 2, 4, 1, RoofNet.NONE, RoofNet.NONE, RoofNet.NONE, RoofNet.NONE};
        for (int what = 0; what < down.length; what++) {
            due.is("down: strand(0, " + what + ")", net.strand(0, what), down[what]);
        }
    }

    private static void needed() {
        RoofNet net = Due.laid("f0,0,0;f9,0,0;u9;u9;s0,2,1,0;s2,3,1,0;s3,1,1,0;s0,1,1,0;");
        for (int s = 0; s < 4; s++) {
            due.is("in a ring: strand(" + s + ", 8)", net.strand(s, 8), 0);
        }
        net.down(2, 1);
        int[] due8 = {1, 1, RoofNet.NONE, 0};
        for (int s = 0; s < 4; s++) {
            due.is("in a row: strand(" + s + ", 8)", net.strand(s, 8), due8[s]);
        }
    }

    private static void slackAndMiss() {
        RoofNet net = Due.laid(FIXED);
        due.is("slack()", net.slack(), 2);
        due.is("miss()", net.miss(), 200);
        net.want(2, 7);
        due.is("slack() of two", net.slack(), 6);
        due.is("miss() of three", net.miss(), 300);
        net.want(0, 6);
        due.is("slack() of three", net.slack(), 7);
        net.undo();
        net.down(1, 1);
        due.is("slack() with one down", net.slack(), 4);
        due.is("miss() with one down", net.miss(), 200);
        net.want(2, 0);
        due.is("slack() with none wanted", net.slack(), 0);
        due.is("miss() with none wanted", net.miss(), 100);
        RoofNet bare = Due.laid("f1,1,1;");
        due.is("slack() without strands", bare.slack(), 0);
        due.is("miss() without strands", bare.miss(), 0);
    }

    private static void settle() {
        RoofNet net = Due.laid(FIXED);
        due.is("settle(0)", net.settle(0), 4);
        due.is("settle(1)", net.settle(1), 200);
        due.is("nothing is done", net.strand(0, 2), 2);
        due.is("nothing is kept", net.count(5), 0);
        net.round(4);
        due.is("settled already", net.settle(0), 0);
        due.is("settle(2)", net.settle(2), RoofNet.BAD);
        due.is("settle(-1)", net.settle(-1), RoofNet.BAD);
        RoofNet never = new RoofNet();
        due.is("never: settle(0)", never.settle(0), RoofNet.NONE);
        due.is("never: settle(1)", never.settle(1), RoofNet.NONE);
        // Joint 2 starts at 10 of 20 and goes to 5 * 20 / 6 = 16.66.
        RoofNet pulled = Due.laid("f0,0,0;f20,0,0;u9;s0,2,1,0;s1,2,1,1;");
        due.is("pulled: settle(0)", pulled.settle(0), 4);
        due.is("pulled: settle(1)", pulled.settle(1), 234);
        due.is("pulled: miss() stays", pulled.miss(), 900);
    }

    private static void better() {
        RoofNet net = new RoofNet();
        due.is("better(0)", net.better(0), 32);
        due.is("better(1)", net.better(1), 973);
        due.is("nothing is done", net.strand(3, 2), 1);
        due.is("nothing is kept", net.count(5), 0);
        due.is("better(2)", net.better(2), RoofNet.BAD);
        due.is("better(-1)", net.better(-1), RoofNet.BAD);
        RoofNet fixed = Due.laid(FIXED);
        due.is("none: better(0)", fixed.better(0), RoofNet.NONE);
        due.is("none: better(1)", fixed.better(1), RoofNet.NONE);
        // Strand 0, of which nothing is wanted, is 1 then: joint 2 goes from 10 to 16 of 20.
        RoofNet unwanted = Due.laid("f0,0,0;f20,0,0;u9;s0,2,4,0;s1,2,4,4;");
        due.is("one of which nothing is wanted", unwanted.better(0), 1);
        due.is("all is as wanted then", unwanted.better(1), 0);
        unwanted.down(0, 1);
        due.is("a strand alone can't be bettered", unwanted.better(0), RoofNet.NONE);
        RoofNet thickest = Due.laid("f0,0,0;f20,0,0;u9;s0,2,1,0;s1,2,1,1;");
        due.is("as thick as can be", thickest.better(0), 15);
        due.is("as thick as can be: miss", thickest.better(1), 234);
        // Strand 0 of 4 or strand 1 of 1: joint 2 is at 6.66 of 20 either way.
        RoofNet twoWays = Due.laid("f0,0,0;f20,0,0;u9;s0,2,2,7;s1,2,2,0;");
        due.is("by the strand first", twoWays.better(0), 4);
        due.is("by the strand first: miss", twoWays.better(1), 34);
    }

    private static void greatest() {
        RoofNet net = Due.laid(FIXED);
        due.is("greatest(0)", net.greatest(0), 2);
        due.is("the lowest of like pulls", net.greatest(1), 0);
        net.density(0, 1);
        due.is("greatest(1)", net.greatest(1), 1);
        net.down(2, 1);
        due.is("greatest(0) with one down", net.greatest(0), 0);
        net.down(1, 1);
        due.is("greatest(1) with two down", net.greatest(1), 0);
        net.down(0, 1);
        due.is("greatest(0) with all down", net.greatest(0), RoofNet.NONE);
        due.is("greatest(1) with all down", net.greatest(1), RoofNet.NONE);
        due.is("greatest(2)", net.greatest(2), RoofNet.BAD);
        due.is("greatest(-1)", net.greatest(-1), RoofNet.BAD);
        RoofNet point = Due.laid("f1,1,1;f1,1,1;s0,1,1,0;");
        due.is("one of length 0", point.greatest(0), 0);
    }

    private static void loose() {
        RoofNet net = Due.laid("f0,0,0;u9;f1,1,1;s0,2,1,5;s0,1,1,5;");
        net.down(1, 1);
        for (int what = 5; what <= 8; what++) {
            due.is("loose: strand(0, " + what + ")", net.strand(0, what), RoofNet.NO);
            due.is("NO comes ahead of NONE: " + what, net.strand(1, what), RoofNet.NO);
            due.is("BAD comes ahead of NO: " + what, net.strand(2, what), RoofNet.BAD);
        }
        due.is("loose: strand(0, 3)", net.strand(0, 3), 5);
        due.is("loose: slack()", net.slack(), RoofNet.NO);
        due.is("loose: miss()", net.miss(), RoofNet.NO);
        for (int what = 0; what <= 1; what++) {
            due.is("loose: settle(" + what + ")", net.settle(what), RoofNet.NO);
            due.is("loose: better(" + what + ")", net.better(what), RoofNet.NO);
            due.is("loose: greatest(" + what + ")", net.greatest(what), RoofNet.NO);
        }
        due.is("loose: settle(2)", net.settle(2), RoofNet.BAD);
        due.is("loose: better(2)", net.better(2), RoofNet.BAD);
        due.is("loose: greatest(2)", net.greatest(2), RoofNet.BAD);
    }
}
