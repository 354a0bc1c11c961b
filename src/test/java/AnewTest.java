/** Promises 6 to 12: density, want, load, move, down, round, undo. */
public final class AnewTest {
    private static final Due due = new Due();

    public static void main(String[] args) {
        density();
        want();
        load();
        move();
        down();
        round();
        undo();
        due.end();
    }

    private static void density() {
        RoofNet net = new RoofNet();
        due.is("density(0, 5)", net.density(0, 5), 1);
        due.is("strand(0, 2)", net.strand(0, 2), 5);
        due.is("density(0, 5) again", net.density(0, 5), RoofNet.NO);
        due.is("density(0, 1)", net.density(0, 1), 5);
        due.is("density(0, 0)", net.density(0, 0), RoofNet.BAD);
        due.is("density(0, 6)", net.density(0, 6), RoofNet.BAD);
        due.is("density(-1, 1)", net.density(-1, 1), RoofNet.BAD);
        due.is("density(5, 1)", net.density(5, 1), RoofNet.BAD);
        due.is("only true changes are kept", net.count(5), 2);
        net.down(0, 1);
        due.is("density of one that is down", net.density(0, 3), 1);
    }

    private static void want() {
        RoofNet net = new RoofNet();
        due.is("want(0, 99)", net.want(0, 99), 30);
        due.is("strand(0, 3)", net.strand(0, 3), 99);
        due.is("want(0, 99) again", net.want(0, 99), RoofNet.NO);
        due.is("want(0, 0)", net.want(0, 0), 99);
        due.is("want(0, -1)", net.want(0, -1), RoofNet.BAD);
        due.is("want(0, 100)", net.want(0, 100), RoofNet.BAD);
        due.is("want(5, 1)", net.want(5, 1), RoofNet.BAD);
        due.is("want(-1, 1)", net.want(-1, 1), RoofNet.BAD);
        due.is("only true changes are kept", net.count(5), 2);
    }

    private static void load() {
        RoofNet net = new RoofNet();
        due.is("load(5, 9)", net.load(5, 9), 4);
        due.is("load(5, 9) again", net.load(5, 9), RoofNet.NO);
        due.is("joint(5, 5)", net.joint(5, 5), 18);
        due.is("load(5, -9)", net.load(5, -9), 18);
        due.is("load(5, 10)", net.load(5, 10), RoofNet.BAD);
        due.is("load(5, -10)", net.load(5, -10), RoofNet.BAD);
        due.is("load of a fixed one", net.load(3, 1), RoofNet.BAD);
        due.is("load(6, 1)", net.load(6, 1), RoofNet.BAD);
        due.is("load(-1, 1)", net.load(-1, 1), RoofNet.BAD);
        due.is("only true changes are kept", net.count(5), 2);
    }

    private static void move() {
        RoofNet net = new RoofNet();
        for (int axis = 0; axis < 3; axis++) {
            int was = net.exact(2, axis, 0);
            due.is("move(2, " + axis + ", 60)", net.move(2, axis, 60), was);
            due.is("move(2, " + axis + ", 60) again", net.move(2, axis, 60), RoofNet.NO);
            due.is("exact(2, " + axis + ", 0)", net.exact(2, axis, 0), 60);
        }
        due.is("move(2, 1, 0)", net.move(2, 1, 0), 60);
        due.is("move(2, 1, 61)", net.move(2, 1, 61), RoofNet.BAD);
        due.is("move(2, 1, -1)", net.move(2, 1, -1), RoofNet.BAD);
        due.is("move(2, 3, 1)", net.move(2, 3, 1), RoofNet.BAD);
        due.is("move(2, -1, 1)", net.move(2, -1, 1), RoofNet.BAD);
        due.is("move of a free one", net.move(4, 0, 1), RoofNet.BAD);
        due.is("move(6, 0, 1)", net.move(6, 0, 1), RoofNet.BAD);
        due.is("move(-1, 0, 1)", net.move(-1, 0, 1), RoofNet.BAD);
        due.is("only true changes are kept", net.count(5), 4);
    }

    private static void down() {
        RoofNet net = new RoofNet();
        due.is("down(0, 0)", net.down(0, 0), RoofNet.NO);
        due.is("down(0, 1)", net.down(0, 1), 4);
        due.is("down(0, 1) again", net.down(0, 1), RoofNet.NO);
        due.is("strand(0, 4)", net.strand(0, 4), 1);
        due.is("down(4, 1)", net.down(4, 1), 3);
        due.is("down(0, 0)", net.down(0, 0), 4);
        due.is("strand(0, 4)", net.strand(0, 4), 0);
        due.is("down(0, 2)", net.down(0, 2), RoofNet.BAD);
        due.is("down(0, -1)", net.down(0, -1), RoofNet.BAD);
        due.is("down(5, 1)", net.down(5, 1), RoofNet.BAD);
        due.is("down(-1, 1)", net.down(-1, 1), RoofNet.BAD);
        due.is("only true changes are kept", net.count(5), 3);
    }

    private static void round() {
        RoofNet net = new RoofNet();
        due.is("round(0)", net.round(0), RoofNet.BAD);
        due.is("round(21)", net.round(21), RoofNet.BAD);
        due.is("round(1)", net.round(1), 1);
        int[] densities = {2, 2, 2, 2, 1};
        for (int s = 0; s < densities.length; s++) {
            due.is("strand(" + s + ", 2)", net.strand(s, 2), densities[s]);
        }
        due.is("a call is one change", net.count(5), 1);
        // 5 long and 4 wanted, 5 long and 6 wanted, 5 long and 5 wanted, 5 long and none wanted.
        RoofNet ends = Due.laid("f0,0,0;f5,0,0;f0,5,0;f0,0,5;f5,5,0;s0,1,3,4;s0,2,3,6;s0,3,3,5;s1,4,3,0;");
        due.is("round(1) of fixed ones", ends.round(1), 1);
        int[] behind = {4, 2, 3, 3};
        for (int s = 0; s < behind.length; s++) {
            due.is("fixed: strand(" + s + ", 2)", ends.strand(s, 2), behind[s]);
        }
        due.is("round(20) ends at 5 and 1", ends.round(20), 1);
        due.is("no more than 5", ends.strand(0, 2), 5);
        due.is("no less than 1", ends.strand(1, 2), 1);
        due.is("round(3) with nothing to do", ends.round(3), 0);
        due.is("it is a change too", ends.count(5), 3);
        ends.down(0, 1);
        ends.density(0, 2);
        due.is("one that is down stays", ends.round(5), 0);
        due.is("its density", ends.strand(0, 2), 2);
        RoofNet loose = Due.laid("f0,0,0;u9;");
        due.is("round(1) of a loose one", loose.round(1), RoofNet.NO);
        due.is("BAD comes ahead of NO", loose.round(0), RoofNet.BAD);
        due.is("nothing is kept then", loose.count(5), 0);
    }

    private static void undo() {
        RoofNet net = new RoofNet();
        due.is("undo() of nothing", net.undo(), RoofNet.NO);
        net.want(0, 7);
        net.density(1, 5);
        net.load(4, -3);
        net.move(0, 2, 11);
        net.down(3, 1);
        net.round(4);
        due.is("six are kept", net.count(5), 6);
        due.is("undo() of rounds", net.undo(), 5);
        due.is("density as ahead of the rounds", net.strand(2, 2), 3);
        due.is("undo() of down", net.undo(), 4);
        due.is("it hangs", net.strand(3, 4), 0);
        due.is("undo() of move", net.undo(), 3);
        due.is("where it was", net.exact(0, 2, 0), 10);
        due.is("undo() of load", net.undo(), 2);
        due.is("its load", net.joint(4, 5), 9);
        due.is("undo() of density", net.undo(), 1);
        due.is("its density", net.strand(1, 2), 2);
        due.is("undo() of want", net.undo(), 0);
        due.is("what is wanted", net.strand(0, 3), 30);
        due.is("undo() of nothing left", net.undo(), RoofNet.NO);
        for (int w = 1; w <= 9; w++) {
            net.want(1, w);
        }
        due.is("no more than six", net.count(5), 6);
        for (int more = 5; more >= 0; more--) {
            due.is("undo() of six", net.undo(), more);
            due.is("wanted then", net.strand(1, 3), more + 3);
        }
        due.is("the seventh is gone", net.undo(), RoofNet.NO);
    }
}
