/** Promises 13 to 15 and the terms of places: each sentence that names a boundary, by its words. */
public final class JointEdgesTest {
    private static final int BAD = RoofNet.BAD, NO = RoofNet.NO;
    private static final int EXACT_BAD = -2000000000;
    private static final int EXACT_NO = -2000000001;
    private static final int MORE = 1000000;
    private static final Due due = new Due();
    private static final Twins twins = new Twins(due);
    /** Five free joints in a row, with room for a load. */
    private static final String CHAIN = "s0,1,1,0;s1,2,1,0;s2,3,1,0;s3,4,1,0;s4,5,1,0;";

    public static void main(String[] args) {
        numbersOfJoint();
        numbersOfExact();
        numbersOfBears();
        freeOrFixed();
        strandsAsBits();
        loadAnd9();
        hungOverFreeJoints();
        hungWithoutFreeJoints();
        notWhileSomeJointIsLoose();
        hundredthsRoundedDown();
        lowestAndHighestPlaces();
        inLowestTerms();
        largeFractions();
        withinNoLessAndNoMore();
        bearsLeastAndMost();
        askingChangesNothing();
        due.end();
    }

    private static RoofNet full() {
        return Due.laid(Nets.FULL);
    }

    private static RoofNet loose() {
        return Twins.fresh(Nets::layLoose);
    }

    /** "JOINTS, STRANDS such as there are"; what = 0 to 7. */
    private static void numbersOfJoint() {
        for (int what = 0; what <= 7; what++) {
            int asked = what;
            twins.range("joint(j, " + what + ") of", 0, 5, BAD, j -> new RoofNet().joint(j, asked));
            twins.range("joint(j, " + what + ") of many", 0, 9, BAD, j -> full().joint(j, asked));
            twins.range("joint(j, " + what + ") of one", 0, 0, BAD, j -> Due.laid("u9;").joint(j, asked));
        }
        for (int j = 0; j <= 5; j++) {
            int asked = j;
            twins.range("joint(" + j + ", what)", 0, 7, BAD, what -> new RoofNet().joint(asked, what));
        }
        twins.range("loose: joint(0, what)", 0, 7, BAD, what -> loose().joint(0, what));
        twins.range("loose: joint(j, 1)", 0, 2, BAD, j -> loose().joint(j, 1));
    }

    /** "BAD answers -2000000000". */
    private static void numbersOfExact() {
        twins.range("exact of joint", 0, 5, EXACT_BAD, j -> new RoofNet().exact(j, 0, 0));
        twins.range("exact of joint of many", 0, 9, EXACT_BAD, j -> full().exact(j, 2, 1));
        twins.range("exact along", 0, 2, EXACT_BAD, axis -> new RoofNet().exact(4, axis, 0));
        twins.range("exact, part", 0, 1, EXACT_BAD, part -> new RoofNet().exact(4, 2, part));
        twins.range("loose: exact of joint", 0, 2, EXACT_BAD, j -> loose().exact(j, 0, 0));
        twins.range("loose: exact along", 0, 2, EXACT_BAD, axis -> loose().exact(0, axis, 0));
        twins.range("loose: exact, part", 0, 1, EXACT_BAD, part -> loose().exact(1, 0, part));
    }

    /** "BAD (a FREE one, too)". */
    private static void numbersOfBears() {
        twins.range("bears of joint", 0, 3, BAD, j -> new RoofNet().bears(j, 0));
        twins.range("bears of joint of many", 0, 4, BAD, j -> full().bears(j, 2));
        twins.range("bears along", 0, 2, BAD, axis -> new RoofNet().bears(3, axis));
        twins.range("loose: bears along", 0, 2, BAD, axis -> loose().bears(2, axis));
        due.is("loose: bears of a free one", loose().bears(1, 0), BAD);
        due.is("bears of the first, a free one", Due.laid("u9;f1,1,1;s0,1,1,0;").bears(0, 0), BAD);
        due.is("bears of the last, a fixed one", Due.laid("u9;f1,1,1;s0,1,1,0;").bears(1, 0), MORE);
    }

    /** "1 if FREE, 0 (what = 0)". */
    private static void freeOrFixed() {
        RoofNet net = full();
        for (int j = 0; j < 10; j++) {
            due.is("joint(" + j + ", 0)", net.joint(j, 0), j < 5 ? 0 : 1);
        }
        RoofNet mixed = Due.laid("u9;f1,1,1;u9;f1,1,1;u9;f1,1,1;u9;f1,1,1;u9;f1,1,1;");
        for (int j = 0; j < 10; j++) {
            due.is("mixed: joint(" + j + ", 0)", mixed.joint(j, 0), 1 - j % 2);
        }
    }

    /** "STRANDS that hang, as bits (4)". */
    private static void strandsAsBits() {
        RoofNet net = full();
        int[] bits = {257, 4610, 1028, 2056, 8192, 23, 56, 6240, 1216, 9088};
        for (int j = 0; j < 10; j++) {
            due.is("joint(" + j + ", 4)", net.joint(j, 4), bits[j]);
        }
        net.down(13, 1);
        due.is("the last strand down, of a fixed one", net.joint(4, 4), 0);
        due.is("the last strand down, of a free one", net.joint(9, 4), 9088 - 8192);
        net.down(0, 1);
        due.is("the first strand down", net.joint(0, 4), 256);
        due.is("a joint without strands", Due.laid("f1,1,1;").joint(0, 4), 0);
    }

    /** "LOAD, and 9 (5; FIXED: 9)". */
    private static void loadAnd9() {
        RoofNet net = Due.laid("u0;u18;u9;f60,60,60;u1;u17;");
        int[] loads = {0, 18, 9, 9, 1, 17};
        for (int j = 0; j < loads.length; j++) {
            due.is("joint(" + j + ", 5)", net.joint(j, 5), loads[j]);
        }
        RoofNet laidAgain = Due.laid("u0;u18;");
        for (int times = 1; times <= 3; times++) {
            laidAgain.wipe();
            Due.write(laidAgain, "f1,1,1;f2,2,2;");
            laidAgain.lay();
            due.is("a fixed one where a free one was", laidAgain.joint(0, 5), 9);
            due.is("another one", laidAgain.joint(1, 5), 9);
        }
    }

    /** "a row of STRANDS that hang, one behind the other, over FREE JOINTS leads to a FIXED one". */
    private static void hungOverFreeJoints() {
        // The strands are told from the far end on, so that one look over them hangs one joint alone.
        String back = "f0,0,0;" + "u9;".repeat(5) + "s5,4,1,0;s4,3,1,0;s3,2,1,0;s2,1,1,0;s1,0,1,0;";
        for (String text : new String[] {"f0,0,0;" + "u9;".repeat(5) + CHAIN, back}) {
            boolean isBack = text.equals(back);
            for (int cut = 0; cut <= 5; cut++) {
                RoofNet net = Due.laid(text);
                if (cut < 5) {
                    net.down(isBack ? 4 - cut : cut, 1);
                }
                for (int j = 0; j <= 5; j++) {
                    due.is("cut behind " + cut + ": joint(" + j + ", 6)", net.joint(j, 6), j <= cut ? 1 : 0);
                }
                due.is("cut behind " + cut + ": count(4)", net.count(4), cut);
                due.is("cut behind " + cut + ": miss()", net.miss(), cut == 5 ? 0 : NO);
            }
        }
        RoofNet ring = Due.laid("f0,0,0;u9;u9;u9;s1,2,1,0;s2,3,1,0;s3,1,1,0;");
        due.is("a ring of free ones is loose", ring.count(4), 0);
        due.is("the fixed one is hung", ring.joint(0, 6), 1);
        due.is("a free joint alone", Due.laid("u9;").joint(0, 6), 0);
        due.is("a free joint by one strand", Due.laid("u9;f1,1,1;s1,0,1,0;").joint(0, 6), 1);
    }

    /** "(without FREE JOINTS all are)". */
    private static void hungWithoutFreeJoints() {
        RoofNet net = Due.laid("f1,2,3;f4,5,6;");
        due.is("without free joints: joint(1, 3)", net.joint(1, 3), MORE + 600);
        due.is("without free joints: exact(0, 1, 0)", net.exact(0, 1, 0), 2);
        due.is("without free joints: joint(0, 7)", net.joint(0, 7), 1);
        due.is("without free joints: bears(0, 0)", net.bears(0, 0), MORE);
        due.is("without free joints: slack()", net.slack(), 0);
        due.is("without free joints: miss()", net.miss(), 0);
        due.is("without free joints: settle(0)", net.settle(0), 0);
        due.is("without free joints: round(1)", net.round(1), 0);
        due.is("without free joints: count(4)", net.count(4), 0);
        due.is("without free joints: rolls(0)", net.rolls(0), 0);
    }

    /** "NO (1 to 3, 7): some FREE JOINT is not HUNG", "NO likewise -2000000001". */
    private static void notWhileSomeJointIsLoose() {
        for (int j = 0; j <= 2; j++) {
            int asked = j;
            for (int what : new int[] {1, 2, 3, 7}) {
                twins.leavesAll("loose: joint(" + j + ", " + what + ")", Nets::layLoose, NO,
                    net -> net.joint(asked, what));
            }
            for (int axis = 0; axis < 3; axis++) {
                int along = axis;
                twins.leavesAll("loose: exact(" + j + ", " + axis + ", 0)", Nets::layLoose, EXACT_NO,
                    net -> net.exact(asked, along, 0));
                twins.leavesAll("loose: exact(" + j + ", " + axis + ", 1)", Nets::layLoose, EXACT_NO,
                    net -> net.exact(asked, along, 1));
                if (j != 1) {
                    twins.leavesAll("loose: bears(" + j + ", " + axis + ")", Nets::layLoose, NO,
                        net -> net.bears(asked, along));
                }
            }
        }
        int[] free = {0, 1, 0};
        int[] bits = {1, 0, 1};
        int[] loads = {9, 12, 9};
        int[] hung = {1, 0, 1};
        RoofNet net = loose();
        for (int j = 0; j <= 2; j++) {
            due.is("loose: joint(" + j + ", 0)", net.joint(j, 0), free[j]);
            due.is("loose: joint(" + j + ", 4)", net.joint(j, 4), bits[j]);
            due.is("loose: joint(" + j + ", 5)", net.joint(j, 5), loads[j]);
            due.is("loose: joint(" + j + ", 6)", net.joint(j, 6), hung[j]);
        }
        net.down(1, 0);
        due.is("hung again: joint(1, 3)", net.joint(1, 3), MORE + 600);
        due.is("hung again: bears(0, 2)", net.bears(0, 2), MORE + 300);
    }

    /** "in HUNDREDTHS: 100 times that, rounded down (also below 0)". */
    private static void hundredthsRoundedDown() {
        // One strand from 0, 0, 0: along Z the load over the density.
        for (int load = -9; load <= 9; load++) {
            for (int q = 1; q <= 5; q++) {
                RoofNet net = Due.laid("f0,0,0;u" + (load + 9) + ";s0,1," + q + ",0;");
                int down = load >= 0 ? 100 * load / q : -((-100 * load + q - 1) / q);
                due.is("height by " + load + " over " + q, net.joint(1, 3), MORE + down);
                due.is("along X", net.joint(1, 1), MORE);
                due.is("along Y", net.joint(1, 2), MORE);
            }
        }
        RoofNet first = Due.laid("u5;f1,2,3;s0,1,2,0;");
        due.is("the first joint, a free one", first.joint(0, 3), MORE + 100);
        RoofNet last = Due.laid("f1,2,3;".repeat(9) + "u5;s9,8,2,0;");
        due.is("the last joint of ten, a free one", last.joint(9, 3), MORE + 100);
        due.is("a third below 0", Due.laid("f0,0,0;u8;s0,1,3,0;").joint(1, 3), MORE - 34);
        due.is("a quarter below 0", Due.laid("f0,0,0;u8;s0,1,4,0;").joint(1, 3), MORE - 25);
        RoofNet thirds = Due.laid("f0,1,0;f1,0,0;u9;s0,2,2,0;s1,2,1,0;");
        due.is("a third", thirds.joint(2, 1), MORE + 33);
        due.is("two thirds", thirds.joint(2, 2), MORE + 66);
        due.is("0", thirds.joint(2, 3), MORE);
        RoofNet fixed = Due.laid("f0,60,59;");
        due.is("fixed at 0", fixed.joint(0, 1), MORE);
        due.is("fixed at 60", fixed.joint(0, 2), MORE + 6000);
        due.is("fixed at 59", fixed.joint(0, 3), MORE + 5900);
    }

    /** "along Z its LOAD with them (so a LOAD below 0 draws it down)": as far as it goes, either way. */
    private static void lowestAndHighestPlaces() {
        RoofNet low = Due.laid("f0,60,0;" + "u0;".repeat(5) + CHAIN);
        RoofNet high = Due.laid("f60,0,60;" + "u18;".repeat(5) + CHAIN);
        int[] way = {0, 45, 81, 108, 126, 135};
        for (int j = 0; j <= 5; j++) {
            due.is("low: joint(" + j + ", 1)", low.joint(j, 1), MORE);
            due.is("low: joint(" + j + ", 2)", low.joint(j, 2), MORE + 6000);
            due.is("low: joint(" + j + ", 3)", low.joint(j, 3), MORE - 100 * way[j]);
            due.is("low: exact(" + j + ", 2, 0)", low.exact(j, 2, 0), -way[j]);
            due.is("low: exact(" + j + ", 2, 1)", low.exact(j, 2, 1), 1);
            due.is("high: joint(" + j + ", 1)", high.joint(j, 1), MORE + 6000);
            due.is("high: joint(" + j + ", 2)", high.joint(j, 2), MORE);
            due.is("high: joint(" + j + ", 3)", high.joint(j, 3), MORE + 6000 + 100 * way[j]);
            due.is("high: exact(" + j + ", 2, 0)", high.exact(j, 2, 0), 60 + way[j]);
        }
        due.is("low: bears(0, 2)", low.bears(0, 2), MORE - 4500);
        due.is("high: bears(0, 2)", high.bears(0, 2), MORE + 4500);
    }

    /** "as a fraction in lowest terms: above (it may be below 0, and is told as it is), below (1 or more)". */
    private static void inLowestTerms() {
        for (int load = -9; load <= 9; load++) {
            for (int q = 1; q <= 5; q++) {
                RoofNet net = Due.laid("f0,0,0;u" + (load + 9) + ";s0,1," + q + ",0;");
                int shared = load == 0 ? q : load % q == 0 ? q : q == 4 && load % 2 == 0 ? 2 : 1;
                due.is("above of " + load + " over " + q, net.exact(1, 2, 0), load / shared);
                due.is("below of " + load + " over " + q, net.exact(1, 2, 1), q / shared);
                due.is("above of 0", net.exact(1, 0, 0), 0);
                due.is("below of 0", net.exact(1, 0, 1), 1);
            }
        }
        RoofNet net = new RoofNet();
        due.is("fixed above", net.exact(1, 2, 0), 30);
        due.is("fixed below", net.exact(1, 2, 1), 1);
        due.is("fixed at 0 above", net.exact(0, 0, 0), 0);
        due.is("fixed at 0 below", net.exact(0, 0, 1), 1);
    }

    /** Fractions near the largest there are, reckoned by another program. */
    private static void largeFractions() {
        RoofNet below = Due.laid("f53,0,31;f16,8,0;f60,30,23;u1;u1;u1;u0;u1;s6,1,4,0;s4,3,5,0;s7,5,5,0;s7,6,5,0;"
            + "s6,2,5,0;s5,2,4,0;s3,2,5,0;s3,7,5,0;s4,5,5,0;s5,1,5,0;s7,2,4,0;s4,1,5,0;s6,3,5,0;s4,0,4,0;");
        due.is("large below: above", below.exact(3, 2, 0), 24227417);
        due.is("large below: below", below.exact(3, 2, 1), 1508370);
        due.is("large below: hundredths", below.joint(3, 3), MORE + 1606);
        RoofNet above = Due.laid("f13,0,60;f60,4,60;u0;u1;u0;u1;u1;s4,1,5,0;s5,4,5,0;s4,2,5,0;s3,1,5,0;s5,3,4,0;"
            + "s4,0,5,0;s2,0,5,0;s6,0,4,0;s2,1,3,0;s3,6,5,0;s6,5,5,0;s5,1,5,0;s6,2,5,0;s3,0,4,0;");
        due.is("large above: above", above.exact(4, 2, 0), 81103857);
        due.is("large above: below", above.exact(4, 2, 1), 1376215);
        due.is("large above: hundredths", above.joint(4, 3), MORE + 5893);
        RoofNet under = Due.laid("f0,57,0;f32,60,0;u0;u0;u0;u0;u1;s3,5,5,0;s5,2,5,0;s6,0,4,0;s4,5,4,0;s2,1,5,0;"
            + "s5,0,5,0;s2,6,5,0;s3,1,4,0;s4,0,3,0;s6,3,4,0;s2,4,3,0;s3,4,5,0;s6,1,5,0;");
        due.is("large below 0: above", under.exact(4, 2, 0), -1704487);
        due.is("large below 0: below", under.exact(4, 2, 1), 820208);
        due.is("large below 0: hundredths", under.joint(4, 3), MORE - 208);
    }

    /** "no less than the least and no more than the greatest of the JOINTS at the other ends". */
    private static void withinNoLessAndNoMore() {
        for (int load = -9; load <= 9; load++) {
            RoofNet leaf = Due.laid("f7,7,7;u" + (load + 9) + ";s0,1,5,0;");
            due.is("by one strand, load " + load, leaf.joint(1, 7), load == 0 ? 1 : 0);
            // Drawn to 1 and to 5 alike: at 3 and half the load.
            RoofNet between = Due.laid("f0,0,1;f9,9,5;u" + (load + 9) + ";s0,2,1,0;s1,2,1,0;");
            due.is("between 1 and 5, load " + load, between.joint(2, 7), load >= -4 && load <= 4 ? 1 : 0);
        }
        RoofNet net = Due.laid("f0,0,1;f9,9,5;f0,0,60;u14;s0,3,1,0;s1,3,1,0;s2,3,5,0;");
        net.down(2, 1);
        due.is("a strand that is down does not count", net.joint(3, 7), 0);
        net.down(2, 0);
        due.is("it counts when it hangs", net.joint(3, 7), 1);
        due.is("fixed ones are", net.joint(0, 7), 1);
        RoofNet other = Due.laid("f0,0,0;u9;u18;s0,1,1,0;s0,2,1,0;");
        due.is("one of two is", other.joint(1, 7), 1);
        due.is("the other is not", other.joint(2, 7), 0);
    }

    /** "of its STRANDS that hang DENSITY times (HUNDREDTHS of the other end less its own), together". */
    private static void bearsLeastAndMost() {
        for (int axis = 0; axis < 3; axis++) {
            StringBuilder most = new StringBuilder("f0,0,0;");
            StringBuilder least = new StringBuilder(axis == 0 ? "f60,0,0;" : axis == 1 ? "f0,60,0;" : "f0,0,60;");
            most.append(least.toString().repeat(9));
            least.append("f0,0,0;".repeat(9));
            for (int other = 1; other <= 9; other++) {
                // Either end may be told first.
                String strand = other % 2 == 0 ? "s0," + other + ",5,0;" : "s" + other + ",0,5,0;";
                most.append(strand);
                least.append(strand);
            }
            RoofNet drawnUp = Due.laid(most.toString());
            RoofNet drawnDown = Due.laid(least.toString());
            for (int along = 0; along < 3; along++) {
                int all = along == axis ? 9 * 5 * 6000 : 0;
                due.is("most borne along " + along, drawnUp.bears(0, along), MORE + all);
                due.is("least borne along " + along, drawnDown.bears(0, along), MORE - all);
                due.is("of one of nine", drawnUp.bears(9, along), MORE - all / 9);
            }
            drawnUp.down(0, 1);
            due.is("with one down", drawnUp.bears(0, axis), MORE + 8 * 5 * 6000);
            due.is("of the one that is loose then", drawnUp.bears(1, axis), MORE);
        }
        // A third of 1 along X is 33 hundredths, from the other side 67: they are told by hundredths.
        RoofNet cut = Due.laid("f0,0,0;f1,0,0;u9;s0,2,2,0;s1,2,1,0;");
        due.is("by hundredths from 0", cut.bears(0, 0), MORE + 66);
        due.is("by hundredths from 1", cut.bears(1, 0), MORE - 67);
    }

    private static void askingChangesNothing() {
        for (int what = 0; what <= 7; what++) {
            int asked = what;
            int answer = Twins.fresh(Nets::changeFirst).joint(4, what);
            twins.leavesAll("joint(4, " + what + ")", Nets::changeFirst, answer, net -> net.joint(4, asked));
        }
        int answer = Twins.fresh(Nets::changeFirst).exact(5, 2, 1);
        twins.leavesAll("exact(5, 2, 1)", Nets::changeFirst, answer, net -> net.exact(5, 2, 1));
        answer = Twins.fresh(Nets::changeFirst).bears(3, 2);
        twins.leavesAll("bears(3, 2)", Nets::changeFirst, answer, net -> net.bears(3, 2));
        twins.leavesAll("joint(6, 1)", Nets::changeFirst, BAD, net -> net.joint(6, 1));
        twins.leavesAll("joint(-1, 7)", Nets::changeFirst, BAD, net -> net.joint(-1, 7));
        twins.leavesAll("joint(0, 8)", Nets::changeFirst, BAD, net -> net.joint(0, 8));
        twins.leavesAll("exact(6, 0, 0)", Nets::changeFirst, EXACT_BAD, net -> net.exact(6, 0, 0));
        twins.leavesAll("bears(4, 0)", Nets::changeFirst, BAD, net -> net.bears(4, 0));
    }
}
