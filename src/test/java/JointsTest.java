/** Promises 13 to 15: joint, exact, bears. */
public final class JointsTest {
    private static final Due due = new Due();
    private static final int EXACT_BAD = -2000000000;
    private static final int EXACT_NO = -2000000001;

    public static void main(String[] args) {
        joint();
        within();
        exact();
        loose();
        bears();
        due.end();
    }

    private static void joint() {
        // Joint 2 is drawn from 0 and 3 by 1 and 2: 1 along X, 0 along Y, 2 and a third less 3 along Z.
        RoofNet net = Due.laid("f0,0,5;f3,0,1;u0;s0,2,1,0;s2,1,2,0;");
        due.is("joint(2, 0)", net.joint(2, 0), 1);
        due.is("joint(1, 0)", net.joint(1, 0), 0);
        due.is("joint(2, 1)", net.joint(2, 1), 1000200);
        due.is("joint(2, 2)", net.joint(2, 2), 1000000);
        due.is("rounded down below 0", net.joint(2, 3), 1000000 - 67);
        due.is("joint(2, 4)", net.joint(2, 4), 3);
        due.is("joint(1, 4)", net.joint(1, 4), 2);
        due.is("joint(2, 5)", net.joint(2, 5), 0);
        due.is("joint(0, 5)", net.joint(0, 5), 9);
        due.is("joint(2, 6)", net.joint(2, 6), 1);
        due.is("joint(0, 6)", net.joint(0, 6), 1);
        due.is("joint(0, 3)", net.joint(0, 3), 1000500);
        due.is("joint(0, -1)", net.joint(0, -1), RoofNet.BAD);
        due.is("joint(0, 8)", net.joint(0, 8), RoofNet.BAD);
        due.is("joint(3, 0)", net.joint(3, 0), RoofNet.BAD);
        due.is("joint(-1, 0)", net.joint(-1, 0), RoofNet.BAD);
        net.down(0, 1);
        due.is("joint(2, 4) with one down", net.joint(2, 4), 2);
        due.is("joint(0, 4) with it down", net.joint(0, 4), 0);
    }

    private static void within() {
        RoofNet net = Due.laid("f0,0,5;f3,0,1;u0;s0,2,1,0;s2,1,2,0;");
        due.is("drawn below all", net.joint(2, 7), 0);
        net.load(2, 9);
        due.is("drawn above all", net.joint(2, 7), 0);
        net.load(2, 8);
        due.is("exactly at the greatest", net.joint(2, 7), 1);
        net.load(2, -4);
        due.is("exactly at the least", net.joint(2, 7), 1);
        net.load(2, 0);
        due.is("held within", net.joint(2, 7), 1);
        net.move(0, 2, 1);
        net.load(2, 1);
        due.is("above by a third", net.joint(2, 7), 0);
        net.load(2, 0);
        due.is("at both", net.joint(2, 7), 1);
        due.is("a fixed one", net.joint(0, 7), 1);
        // Joint 3 is below joint 1 by less than a hundredth, and so are their hundredths alike.
        RoofNet near = Due.laid("f50,49,19;u1;u15;u1;s0,1,1,6;s0,2,4,25;s2,3,1,0;s0,3,4,11;s1,3,4,34;s2,1,5,46;");
        due.is("near: joint(1, 3)", near.joint(1, 3), 1001732);
        due.is("near: joint(3, 3)", near.joint(3, 3), 1001732);
        due.is("outside by exact places", near.joint(3, 7), 0);
        due.is("the other one is within", near.joint(1, 7), 1);
    }

    private static void exact() {
        RoofNet net = Due.laid("f0,0,5;f3,0,1;u0;s0,2,1,0;s2,1,2,0;");
        due.is("exact(2, 0, 0)", net.exact(2, 0, 0), 2);
        due.is("exact(2, 0, 1)", net.exact(2, 0, 1), 1);
        due.is("exact(2, 1, 0)", net.exact(2, 1, 0), 0);
        due.is("0 is over 1", net.exact(2, 1, 1), 1);
        due.is("exact(2, 2, 0)", net.exact(2, 2, 0), -2);
        due.is("exact(2, 2, 1)", net.exact(2, 2, 1), 3);
        due.is("exact(0, 2, 0)", net.exact(0, 2, 0), 5);
        due.is("exact(0, 2, 1)", net.exact(0, 2, 1), 1);
        due.is("exact(3, 0, 0)", net.exact(3, 0, 0), EXACT_BAD);
        due.is("exact(-1, 0, 0)", net.exact(-1, 0, 0), EXACT_BAD);
        due.is("exact(0, 3, 0)", net.exact(0, 3, 0), EXACT_BAD);
        due.is("exact(0, -1, 0)", net.exact(0, -1, 0), EXACT_BAD);
        due.is("exact(0, 0, 2)", net.exact(0, 0, 2), EXACT_BAD);
        due.is("exact(0, 0, -1)", net.exact(0, 0, -1), EXACT_BAD);
        RoofNet freeFirst = Due.laid("u13;f0,0,0;f4,2,1;s0,1,1,0;s2,0,3,0;");
        due.is("free first: exact(0, 0, 0)", freeFirst.exact(0, 0, 0), 3);
        due.is("free first: exact(0, 1, 0)", freeFirst.exact(0, 1, 0), 3);
        due.is("free first: exact(0, 1, 1)", freeFirst.exact(0, 1, 1), 2);
        due.is("free first: exact(0, 2, 0)", freeFirst.exact(0, 2, 0), 7);
        due.is("free first: exact(0, 2, 1)", freeFirst.exact(0, 2, 1), 4);
        RoofNet chain = Due.laid("f60,0,60;u18;u18;u18;u18;u18;s0,1,1,0;s1,2,1,0;s2,3,1,0;s3,4,1,0;s4,5,1,0;");
        due.is("the highest there is", chain.exact(5, 2, 0), 60 + 45 + 36 + 27 + 18 + 9);
        due.is("as a whole one", chain.exact(5, 2, 1), 1);
    }

    private static void loose() {
        // Joint 2 hangs by joint 1 alone; with strand 0 down both are loose, joint 3 is not.
        RoofNet net = Due.laid("f0,0,0;u9;u9;u9;s0,1,1,1;s1,2,1,1;s0,3,1,1;");
        due.is("hung over another", net.joint(2, 6), 1);
        net.down(0, 1);
        due.is("joint(1, 6)", net.joint(1, 6), 0);
        due.is("joint(2, 6)", net.joint(2, 6), 0);
        due.is("joint(3, 6)", net.joint(3, 6), 1);
        due.is("joint(0, 6)", net.joint(0, 6), 1);
        for (int what : new int[] {1, 2, 3, 7}) {
            due.is("joint(3, " + what + ")", net.joint(3, what), RoofNet.NO);
            due.is("joint(0, " + what + ")", net.joint(0, what), RoofNet.NO);
            due.is("joint(4, " + what + ")", net.joint(4, what), RoofNet.BAD);
        }
        due.is("joint(3, 4)", net.joint(3, 4), 4);
        due.is("joint(3, 5)", net.joint(3, 5), 9);
        due.is("exact(3, 0, 0)", net.exact(3, 0, 0), EXACT_NO);
        due.is("exact(0, 0, 1)", net.exact(0, 0, 1), EXACT_NO);
        due.is("exact(4, 0, 1)", net.exact(4, 0, 1), EXACT_BAD);
        due.is("bears(0, 0)", net.bears(0, 0), RoofNet.NO);
        due.is("bears(1, 0)", net.bears(1, 0), RoofNet.BAD);
    }

    private static void bears() {
        RoofNet net = Due.laid("f0,0,5;f3,0,1;u0;f9,9,9;s0,2,1,0;s2,1,2,0;s1,3,5,0;");
        due.is("bears(0, 0)", net.bears(0, 0), 1000200);
        due.is("bears(0, 2)", net.bears(0, 2), 1000000 - 67 - 500);
        due.is("bears(1, 0)", net.bears(1, 0), 1000000 + 2 * -100 + 5 * 600);
        due.is("bears(1, 1)", net.bears(1, 1), 1000000 + 5 * 900);
        due.is("bears(1, 2)", net.bears(1, 2), 1000000 + 2 * -167 + 5 * 800);
        net.down(2, 1);
        due.is("bears(1, 1) with one down", net.bears(1, 1), 1000000);
        due.is("bears nothing", net.bears(3, 0), 1000000);
        due.is("bears(2, 0) of a free one", net.bears(2, 0), RoofNet.BAD);
        due.is("bears(4, 0)", net.bears(4, 0), RoofNet.BAD);
        due.is("bears(-1, 0)", net.bears(-1, 0), RoofNet.BAD);
        due.is("bears(0, 3)", net.bears(0, 3), RoofNet.BAD);
        due.is("bears(0, -1)", net.bears(0, -1), RoofNet.BAD);
    }
}
