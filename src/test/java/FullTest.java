/** Promises 4, 5 and 13 to 24 on a net as large as can be: 10 joints, 5 of them free, 14 strands. */
public final class FullTest {
    private static final Due due = new Due();
    private static final String TEXT = "f1,60,8;f60,1,30;f1,1,60;f33,9,2;f9,9,9;u1;u3;u18;u9;u5;"
        + "s0,5,1,9;s1,5,2,0;s2,5,3,30;s3,6,1,8;s5,6,2,9;s6,7,3,22;s7,8,4,9;s8,9,5,40;s9,0,1,7;s9,1,2,0;s8,2,3,9;"
        + "s7,3,4,9;s7,1,5,9;s9,4,1,60;r99,50;";

    public static void main(String[] args) {
        RoofNet net = new RoofNet();
        NaiveNet naive = new NaiveNet();
        for (int i = 0; i < TEXT.length(); i++) {
            due.is("write", net.write(TEXT.charAt(i)), naive.write(TEXT.charAt(i)));
        }
        due.is("fault()", net.fault(), RoofNet.NONE);
        due.is("lay()", net.lay(), 10);
        due.is("lay() of the other", naive.lay(), 10);
        askAll(net, naive, "at first");
        for (int s = 13; s >= 0; s--) {
            due.is("down", net.down(s, 1), naive.down(s, 1));
            askAll(net, naive, "with " + s + " down");
            due.is("undo", net.undo(), naive.undo());
        }
        due.is("round(3)", net.round(3), naive.round(3));
        askAll(net, naive, "behind 3 rounds");
        due.is("undo", net.undo(), naive.undo());
        askAll(net, naive, "as at first");
        due.end();
    }

    private static void askAll(RoofNet net, NaiveNet naive, String when) {
        for (int j = -1; j <= 10; j++) {
            for (int what = -1; what <= 8; what++) {
                due.is(when + ": joint(" + j + ", " + what + ")", net.joint(j, what), naive.joint(j, what));
            }
            for (int axis = -1; axis <= 3; axis++) {
                due.is(when + ": above " + j + ", " + axis, net.exact(j, axis, 0), naive.exact(j, axis, 0));
                due.is(when + ": below " + j + ", " + axis, net.exact(j, axis, 1), naive.exact(j, axis, 1));
                due.is(when + ": bears(" + j + ", " + axis + ")", net.bears(j, axis), naive.bears(j, axis));
            }
        }
        for (int s = -1; s <= 14; s++) {
            for (int what = -1; what <= 9; what++) {
                due.is(when + ": strand(" + s + ", " + what + ")", net.strand(s, what), naive.strand(s, what));
            }
            due.is(when + ": rollOf(" + s + ")", net.rollOf(s), naive.rollOf(s));
        }
        due.is(when + ": slack()", net.slack(), naive.slack());
        due.is(when + ": miss()", net.miss(), naive.miss());
        for (int what = -1; what <= 9; what++) {
            due.is(when + ": settle(" + what + ")", net.settle(what), naive.settle(what));
            due.is(when + ": better(" + what + ")", net.better(what), naive.better(what));
            due.is(when + ": greatest(" + what + ")", net.greatest(what), naive.greatest(what));
            due.is(when + ": rolls(" + what + ")", net.rolls(what), naive.rolls(what));
            due.is(when + ": count(" + what + ")", net.count(what), naive.count(what));
        }
    }
}
