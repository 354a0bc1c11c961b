/** Promises 4, 5 and 13 to 24 on a net as large as can be: 200 letters, 10 joints, 5 of them free, 14 strands. */
public final class FullTest {
    private static final Due due = new Due();
    private static final int NO_STRAND = -1;
    private final String when;
    private final int down;
    private final int rounds;
    private final boolean undone;
    private RoofNet net;
    private NaiveNet naive;

    private FullTest(String when, int down, int rounds, boolean undone) {
        this.when = when;
        this.down = down;
        this.rounds = rounds;
        this.undone = undone;
    }

    public static void main(String[] args) {
        new FullTest("at first", NO_STRAND, 0, false).askAll();
        for (int s = 13; s >= 0; s--) {
            new FullTest("with " + s + " down", s, 0, false).askAll();
            new FullTest("with " + s + " down and hung again", s, 0, true).askAll();
        }
        new FullTest("behind 3 rounds", NO_STRAND, 3, false).askAll();
        new FullTest("behind 3 rounds, undone", NO_STRAND, 3, true).askAll();
        due.end();
    }

    /** New objects for each lot of questions, so that none comes to its 512th call. */
    private void askAll() {
        tell();
        askJoints();
        tell();
        askStrands();
        askTheRest();
    }

    private void tell() {
        net = new RoofNet();
        naive = new NaiveNet();
        for (int i = 0; i < Nets.FULL.length(); i++) {
            due.is("write", net.write(Nets.FULL.charAt(i)), naive.write(Nets.FULL.charAt(i)));
        }
        due.is("fault()", net.fault(), RoofNet.NONE);
        due.is("lay()", net.lay(), 10);
        due.is("lay() of the other", naive.lay(), 10);
        if (down != NO_STRAND) {
            due.is("down", net.down(down, 1), naive.down(down, 1));
        }
        if (rounds > 0) {
            due.is("round", net.round(rounds), naive.round(rounds));
        }
        if (undone) {
            due.is("undo", net.undo(), naive.undo());
        }
    }

    private void askJoints() {
        for (int j = -1; j <= 10; j++) {
            for (int what = -1; what <= 8; what++) {
                due.is(when + ": joint(" + j + ", " + what + ")", net.joint(j, what), naive.joint(j, what));
            }
            for (int axis = -1; axis <= 3; axis++) {
                due.is(when + ": above " + j + ", " + axis, net.exact(j, axis, 0), naive.exact(j, axis, 0));
                due.is(when + ": below " + j + ", " + axis, net.exact(j, axis, 1), naive.exact(j, axis, 1));
                due.is(when + ": bears(" + j + ", " + axis + ")", net.bears(j, axis), naive.bears(j, axis));
            }
        }
    }

    private void askStrands() {
        for (int s = -1; s <= 14; s++) {
            for (int what = -1; what <= 9; what++) {
                due.is(when + ": strand(" + s + ", " + what + ")", net.strand(s, what), naive.strand(s, what));
            }
            due.is(when + ": rollOf(" + s + ")", net.rollOf(s), naive.rollOf(s));
        }
    }

    private void askTheRest() {
        due.is(when + ": slack()", net.slack(), naive.slack());
        due.is(when + ": miss()", net.miss(), naive.miss());
        for (int what = -1; what <= 9; what++) {
            due.is(when + ": settle(" + what + ")", net.settle(what), naive.settle(what));
            due.is(when + ": better(" + what + ")", net.better(what), naive.better(what));
            due.is(when + ": greatest(" + what + ")", net.greatest(what), naive.greatest(what));
            due.is(when + ": rolls(" + what + ")", net.rolls(what), naive.rolls(what));
            due.is(when + ": count(" + what + ")", net.count(what), naive.count(what));
        }
    }
}
