import java.util.Random;

/** Promises 22 to 24: rolls, rollOf, count. */
public final class RollsTest {
    private static final Due due = new Due();
    /** Pieces of 4, 3, 3, 4, 3, 3 (times 100) from rolls of 10. */
    private static final String SIX = "f0,0,0;f4,0,0;f3,0,0;f0,3,0;f0,4,0;f0,0,3;f0,0,6;"
        + "s0,1,1,0;s0,2,1,0;s0,3,1,0;s0,4,1,0;s0,5,1,0;s5,6,1,0;r10,0;";

    public static void main(String[] args) {
        rolls();
        lost();
        noWay();
        ofNothing();
        loose();
        count();
        int rows = args.length > 1 ? Integer.parseInt(args[1]) : 240;
        for (int row = 1; row <= rows; row++) {
            fewestOfMany(row);
        }
        due.end();
    }

    private static void rolls() {
        RoofNet net = Due.laid(SIX);
        due.is("rolls(0)", net.rolls(0), 3);
        due.is("rolls(1)", net.rolls(1), 2);
        due.is("rolls(2)", net.rolls(2), 1000);
        int[] from = {0, 1, 1, 0, 1, 2};
        for (int s = 0; s < from.length; s++) {
            due.is("rollOf(" + s + ")", net.rollOf(s), from[s]);
        }
        net.down(3, 1);
        due.is("rolls(0) with one down", net.rolls(0), 2);
        due.is("rolls(1) with one down", net.rolls(1), 2);
        due.is("rolls(2) with one down", net.rolls(2), 400);
        due.is("rollOf one that is down", net.rollOf(3), RoofNet.NONE);
        due.is("rollOf(1) then", net.rollOf(1), 0);
        due.is("rollOf(4) then", net.rollOf(4), 1);
        due.is("rolls(3)", net.rolls(3), RoofNet.BAD);
        due.is("rolls(-1)", net.rolls(-1), RoofNet.BAD);
        due.is("rollOf(6)", net.rollOf(6), RoofNet.BAD);
        due.is("rollOf(-1)", net.rollOf(-1), RoofNet.BAD);
    }

    private static void lost() {
        RoofNet net = Due.laid("f0,0,0;f5,0,0;f0,5,0;s0,1,1,0;s0,2,1,0;r10,0;");
        due.is("a roll used up", net.rolls(0), 1);
        due.is("nothing left", net.rolls(2), 0);
        RoofNet whole = Due.laid("f0,0,0;f5,0,0;s0,1,1,0;r5,0;");
        due.is("a piece of a whole roll", whole.rolls(0), 1);
        due.is("fewest of a whole roll", whole.rolls(1), 1);
        RoofNet unlike = Due.laid("f0,0,0;f4,0,0;f0,7,0;s0,1,1,0;s0,2,1,0;r10,0;");
        due.is("the shorter one behind", unlike.rollOf(0), 1);
        due.is("the longer one ahead", unlike.rollOf(1), 0);
        RoofNet three = Due.laid("f0,0,0;f6,0,0;f0,6,0;f0,0,6;s0,1,1,0;s0,2,1,0;s0,3,1,0;r10,0;");
        due.is("no two fit on one", three.rolls(0), 3);
        due.is("fewest, though two would hold the sum", three.rolls(1), 3);
        RoofNet loss = Due.laid("f0,0,0;f5,0,0;f0,5,0;s0,1,1,0;s0,2,1,0;r10,1;");
        due.is("with a loss", loss.rolls(0), 2);
        due.is("fewest with a loss", loss.rolls(1), 2);
        due.is("left with a loss", loss.rolls(2), 998);
        RoofNet points = Due.laid("f1,1,1;f1,1,1;f1,1,1;s0,1,1,0;s1,2,1,0;r1,0;");
        due.is("pieces of 0: rolls(0)", points.rolls(0), 1);
        due.is("pieces of 0: rolls(1)", points.rolls(1), 1);
        due.is("pieces of 0: rolls(2)", points.rolls(2), 100);
        due.is("pieces of 0: rollOf(1)", points.rollOf(1), 0);
    }

    private static void noWay() {
        RoofNet net = Due.laid("f0,0,0;f5,0,0;f0,1,0;s0,1,1,0;s0,2,1,0;r5,1;");
        for (int what = 0; what <= 2; what++) {
            due.is("no way: rolls(" + what + ")", net.rolls(what), RoofNet.NONE);
        }
        due.is("no way: rollOf(0)", net.rollOf(0), RoofNet.NONE);
        due.is("no way: rollOf(1)", net.rollOf(1), RoofNet.NONE);
        due.is("no way: rolls(3)", net.rolls(3), RoofNet.BAD);
        net.down(0, 1);
        due.is("a way again", net.rolls(0), 1);
        due.is("rollOf(1) again", net.rollOf(1), 0);
    }

    private static void ofNothing() {
        RoofNet net = Due.laid("f0,0,0;f5,0,0;s0,1,1,0;");
        net.down(0, 1);
        for (int what = 0; what <= 2; what++) {
            due.is("nothing hangs: rolls(" + what + ")", net.rolls(what), 0);
        }
    }

    private static void loose() {
        RoofNet net = Due.laid("f0,0,0;u9;s0,1,1,0;");
        net.down(0, 1);
        for (int what = 0; what <= 2; what++) {
            due.is("loose: rolls(" + what + ")", net.rolls(what), RoofNet.NO);
        }
        due.is("loose: rolls(3)", net.rolls(3), RoofNet.BAD);
        due.is("loose: rollOf(0)", net.rollOf(0), RoofNet.NO);
        due.is("loose: rollOf(1)", net.rollOf(1), RoofNet.BAD);
    }

    private static void count() {
        RoofNet net = Due.laid("f0,0,0;u9;u9;s0,1,1,0;s1,2,1,0;r33,44;");
        net.down(1, 1);
        net.density(0, 4);
        net.want(0, 4);
        int[] counts = {3, 2, 2, 1, 1, 3, 38, 33, 44};
        for (int what = 0; what < counts.length; what++) {
            due.is("count(" + what + ")", net.count(what), counts[what]);
        }
        due.is("count(-1)", net.count(-1), RoofNet.BAD);
        due.is("count(9)", net.count(9), RoofNet.BAD);
    }

    /**
     * 14 strands between 7 fixed joints that are moved about, each time held against all sets of pieces: fewer than
     * 512 calls.
     */
    private static void fewestOfMany(int row) {
        Random random = new Random(row);
        StringBuilder text = new StringBuilder();
        for (int j = 0; j < 7; j++) {
            text.append("f0,0,0;");
        }
        for (int s = 0; s < 14; s++) {
            text.append('s').append(s / 2).append(',').append((s / 2 + 1 + s % 2) % 7).append(",1,0;");
        }
        int far = 1 + random.nextInt(60);
        text.append('r').append(Math.min(99, 1 + far / 2 + random.nextInt(3 * far))).append(',');
        text.append(random.nextInt(3) == 0 ? random.nextInt(51) : 0).append(';');
        RoofNet net = Due.laid(text.toString());
        int roll = 100 * net.count(7);
        int lost = net.count(8);
        for (int place = 0; place < 21; place++) {
            net.move(place / 3, place % 3, random.nextInt(far + 1));
        }
        for (int moved = 0; moved < 15; moved++) {
            net.move(random.nextInt(7), random.nextInt(3), random.nextInt(far + 1));
            int[] pieces = new int[14];
            for (int s = 0; s < 14; s++) {
                pieces[s] = net.strand(s, 5) + lost;
            }
            due.is("row " + row + ", rolls(1) behind " + moved, net.rolls(1), fewestBySets(pieces, roll));
        }
    }

    /** Of each set of pieces the least of 100000 times the rolls and what is used of the last one. */
    private static int fewestBySets(int[] pieces, int roll) {
        int[] best = new int[1 << pieces.length];
        best[0] = 100000;
        for (int set = 1; set < best.length; set++) {
            best[set] = Integer.MAX_VALUE;
            for (int k = 0; k < pieces.length; k++) {
                if (pieces[k] > roll) {
                    return RoofNet.NONE;
                }
                if ((set >> k & 1) == 1) {
                    int without = best[set & ~(1 << k)];
                    boolean fits = without % 100000 + pieces[k] <= roll;
                    int with = fits ? without + pieces[k] : (without / 100000 + 1) * 100000 + pieces[k];
                    best[set] = Math.min(best[set], with);
                }
            }
        }
        return best[best.length - 1] / 100000;
    }
}
