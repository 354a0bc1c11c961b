/** Promises 1 to 5: a new object, write, wipe, fault, lay. */
public final class ToldTest {
    private static final Due due = new Due();

    public static void main(String[] args) {
        newObject();
        write();
        wipe();
        fault();
        faultOfOneTooMany();
        lay();
        due.end();
    }

    private static void newObject() {
        RoofNet net = new RoofNet();
        int[] counts = {6, 2, 5, 5, 2, 0, 0, 60, 5};
        for (int what = 0; what < counts.length; what++) {
            due.is("new: count(" + what + ")", net.count(what), counts[what]);
        }
        int[][] strands = {{0, 4, 1, 30}, {1, 4, 2, 0}, {4, 5, 3, 18}, {2, 5, 1, 25}, {3, 5, 2, 30}};
        for (int s = 0; s < strands.length; s++) {
            for (int what = 0; what < 4; what++) {
                due.is("new: strand(" + s + ", " + what + ")", net.strand(s, what), strands[s][what]);
            }
        }
        int[][] fixed = {{0, 0, 10}, {40, 0, 30}, {0, 40, 20}, {40, 40, 5}};
        for (int j = 0; j < fixed.length; j++) {
            for (int axis = 0; axis < 3; axis++) {
                due.is("new: exact(" + j + ", " + axis + ", 0)", net.exact(j, axis, 0), fixed[j][axis]);
            }
        }
        due.is("new: joint(4, 5)", net.joint(4, 5), 9);
        due.is("new: joint(5, 5)", net.joint(5, 5), 4);
        due.is("new: wipe()", net.wipe(), 0);
        due.is("new: undo()", net.undo(), RoofNet.NO);
    }

    private static void write() {
        RoofNet net = new RoofNet();
        due.is("write(31)", net.write(31), RoofNet.BAD);
        due.is("write(127)", net.write(127), RoofNet.BAD);
        due.is("write(-1)", net.write(-1), RoofNet.BAD);
        due.is("write(65536 + 'f')", net.write(65536 + 'f'), RoofNet.BAD);
        due.is("write(32)", net.write(32), 1);
        due.is("write(126)", net.write(126), 2);
        for (int size = 3; size <= 200; size++) {
            due.is("write up to " + size, net.write('f'), size);
        }
        due.is("write of one more", net.write('f'), RoofNet.FULL);
        due.is("BAD comes ahead of FULL", net.write(127), RoofNet.BAD);
        due.is("count(6) when full", net.count(6), 200);
    }

    private static void wipe() {
        RoofNet net = new RoofNet();
        Due.write(net, "f1,2,3;");
        due.is("wipe()", net.wipe(), 7);
        due.is("wipe() again", net.wipe(), 0);
        due.is("count(6)", net.count(6), 0);
        due.is("fault() of nothing", net.fault(), RoofNet.NONE);
        due.is("lay() of nothing", net.lay(), RoofNet.NO);
        due.is("the roof stays", net.count(0), 6);
    }

    private static void fault() {
        due.faultOf("f60,60,60;", RoofNet.NONE);
        due.faultOf("f61,0,0;", 0);
        due.faultOf("f0,61,0;", 0);
        due.faultOf("f0,0,61;", 0);
        due.faultOf("f00,05,09;", RoofNet.NONE);
        due.faultOf("f000,5,9;", 0);
        due.faultOf("f1,2,3", 0);
        due.faultOf("f1,2,3,", 0);
        due.faultOf("f1,2;", 0);
        due.faultOf("f1,2,3,4;", 0);
        due.faultOf("f1,,3;", 0);
        due.faultOf("f1,2,3;;", 7);
        due.faultOf("f1,2,3; u9;", 7);
        due.faultOf("F1,2,3;", 0);
        due.faultOf("f-1,2,3;", 0);
        due.faultOf("u0;u18;", RoofNet.NONE);
        due.faultOf("u0;u19;", 3);
        due.faultOf("u;", 0);
        due.faultOf("u1,2;", 0);
        due.faultOf("u9;u9;s0,1,5,99;", RoofNet.NONE);
        due.faultOf("u9;u9;s0,1,0,9;", 6);
        due.faultOf("u9;u9;s0,1,6,9;", 6);
        due.faultOf("u9;u9;s0,1,1;", 6);
        due.faultOf("u9;u9;s0,0,1,1;", 6);
        due.faultOf("u9;s0,1,1,1;u9;", 3);
        due.faultOf("u9;u9;s2,1,1,1;", 6);
        due.faultOf("u9;u9;s0,1,1,1;s1,0,2,2;", 15);
        due.faultOf("u9;r1,0;r99,50;", RoofNet.NONE);
        due.faultOf("u9;r0,0;", 3);
        due.faultOf("u9;r1,51;", 3);
        due.faultOf("u9;r1;", 3);
        due.faultOf("u9;x", 3);
        due.faultOf("u9;xx;f99,9,9;", 3);
    }

    private static void faultOfOneTooMany() {
        due.faultOf("f1,1,1;".repeat(10), RoofNet.NONE);
        due.faultOf("f1,1,1;".repeat(11), 70);
        due.faultOf("f1,1,1;".repeat(10) + "u9;", 70);
        due.faultOf("u9;".repeat(5) + "f1,1,1;".repeat(5), RoofNet.NONE);
        due.faultOf("u9;".repeat(6), 15);
        String hub = "u9;" + "f1,1,1;".repeat(5) + "s0,1,1,0;s0,2,1,0;s3,0,1,0;s0,4,1,0;";
        due.faultOf(hub, RoofNet.NONE);
        due.faultOf(hub + "s5,0,1,0;", hub.length());
        due.faultOf(hub + "s5,4,1,0;", RoofNet.NONE);
        String star = "f1,1,1;".repeat(6) + "s0,1,1,0;s0,2,1,0;s0,3,1,0;s0,4,1,0;s0,5,1,0;";
        due.faultOf(star, RoofNet.NONE);
        String many = star + "s1,2,1,0;s1,3,1,0;s1,4,1,0;s1,5,1,0;s2,3,1,0;s2,4,1,0;s2,5,1,0;s3,4,1,0;s3,5,1,0;";
        due.faultOf(many, RoofNet.NONE);
        due.faultOf(many + "s4,5,1,0;", many.length());
    }

    private static void lay() {
        RoofNet net = new RoofNet();
        Due.write(net, "r5,5;");
        due.is("fault() without a joint", net.fault(), RoofNet.NONE);
        due.is("lay() without a joint", net.lay(), RoofNet.NO);
        due.is("R stays", net.count(7), 60);
        net.down(0, 1);
        Due.write(net, "f1,2,3;u9;s0,1,2,3;");
        due.is("lay()", net.lay(), 2);
        due.is("nothing can be undone", net.undo(), RoofNet.NO);
        due.is("the text stays", net.count(6), 24);
        due.is("R", net.count(7), 5);
        due.is("E", net.count(8), 5);
        due.is("strands", net.count(2), 1);
        due.is("all hang", net.count(3), 1);
        due.is("free", net.joint(1, 0), 1);
        net.down(0, 1);
        Due.write(net, "x");
        due.is("lay() with a fault", net.lay(), RoofNet.NO);
        due.is("nothing changes then", net.count(3), 0);
        due.is("a change stays to be undone", net.count(5), 1);
        net.wipe();
        Due.write(net, "u1;r7,8;r9,0;");
        due.is("lay() again", net.lay(), 1);
        due.is("the last R counts", net.count(7), 9);
        due.is("the last E counts", net.count(8), 0);
        due.is("no strand stays", net.count(2), 0);
        due.is("none hangs", net.count(3), 0);
        net.wipe();
        Due.write(net, "f1,1,1;");
        due.is("lay() of one fixed joint", net.lay(), 1);
        due.is("R without", net.count(7), 40);
        due.is("E without", net.count(8), 10);
        due.is("no free joint stays", net.count(1), 0);
        due.is("a fixed joint has no load left over", net.joint(0, 5), 9);
    }
}
