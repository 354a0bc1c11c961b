/** Texts that several tests lay. */
final class Nets {
    /** 200 letters, 10 joints, 5 of them free, 14 strands: as large as can be. */
    static final String FULL = "f10,60,8;f60,1,30;f1,1,60;f33,9,2;f19,19,19;u1;u3;u18;u9;u5;"
        + "s0,5,1,19;s1,5,2,0;s2,5,3,30;s3,6,1,18;s5,6,2,29;s6,7,3,22;s7,8,4,9;s8,9,5,40;s9,0,1,7;s9,1,2,0;s8,2,3,9;"
        + "s7,3,4,9;s7,1,5,9;s9,4,1,60;r99,50;";
    /** What a new object is told. */
    static final String FIRST = "f0,0,10;f40,0,30;f0,40,20;f40,40,5;u9;u4;"
        + "s0,4,1,30;s1,4,2,0;s4,5,3,18;s2,5,1,25;s3,5,2,30;r60,5;";
    /** Joint 1 is loose as soon as strand 1 is down; strand 0 is between fixed ones. */
    static final String LOOSE = "f3,4,5;u12;f6,8,5;s0,2,2,6;s0,1,3,5;r20,7;";
    /** Lengths 5099, 4901, 5000 (the root is cut), 5000: one below, one above and two as wanted. */
    static final String NEAR = "f0,0,0;f50,10,0;f49,1,0;f50,1,0;f50,0,0;"
        + "s0,1,3,51;s0,2,3,49;s0,3,3,50;s0,4,3,50;";
    /** Found by a long search, as nearly all nets rest sooner or never do: the 60th round is the last that changes. */
    static final String SETTLES_BEHIND_60 = "f46,52,9;f3,7,0;f28,33,8;u15;u16;u3;"
        + "s5,4,3,0;s3,5,5,13;s3,2,1,3;s4,2,3,13;s3,1,5,39;s3,0,4,30;s5,0,1,14;s4,0,1,10;";
    /** Likewise the 64th: behind 3 rounds 61 are left, behind 4 of them 60. */
    static final String SETTLES_BEHIND_64 = "f2,6,29;f58,39,13;u3;u14;u5;u18;u6;s2,6,3,1;s6,1,4,22;s2,1,3,20;"
        + "s5,6,4,29;s2,5,4,20;s4,1,5,73;s3,1,4,17;s5,0,3,21;s4,0,1,24;s6,3,1,2;s3,4,1,18;s3,2,2,5;s4,5,4,7;";

    private Nets() {
    }

    static void layFull(RoofNet net) {
        Due.write(net, FULL);
        net.lay();
    }

    static void layLoose(RoofNet net) {
        Due.write(net, LOOSE);
        net.lay();
        net.want(0, 7);
        net.down(1, 1);
        net.density(0, 3);
    }

    /** The net of a new object behind one change of each kind, with a text that is not laid. */
    static void changeFirst(RoofNet net) {
        net.density(0, 4);
        net.want(1, 17);
        net.load(4, -5);
        net.move(2, 1, 33);
        net.down(3, 1);
        net.round(2);
        Due.write(net, "f1,2,3;u7;s0,1,4,9;");
    }
}
