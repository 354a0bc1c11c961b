/**
 * Objects told alike, one of which is called once more, to see whether that call leaves all as it was. Each look at
 * an object uses it up, so that none comes near its 512th call.
 */
final class Twins {
    /** A call, or several, on an object. */
    interface Telling {
        void on(RoofNet net);
    }

    interface Call {
        int on(RoofNet net);
    }

    /** An answer to a number. */
    interface Asking {
        int with(int number);
    }

    private static final int MOST_UNDONE = 7;
    private final Due due;

    Twins(Due due) {
        this.due = due;
    }

    /** The call answers so, and behind it all is as without it, also behind each undo and behind lay. */
    void leavesAll(String name, Telling told, int answer, Call call) {
        for (int undone = 0; undone <= MOST_UNDONE; undone++) {
            RoofNet one = fresh(told);
            RoofNet other = fresh(told);
            due.is(name, call.on(one), answer);
            for (int i = 0; i < undone; i++) {
                due.is(name + ", then undo()", one.undo(), other.undo());
            }
            due.same(name + ", then " + undone + " undone", all(one), all(other));
        }
        RoofNet one = fresh(told);
        RoofNet other = fresh(told);
        call.on(one);
        due.is(name + ", then lay()", one.lay(), other.lay());
        due.same(name + ", then laid", all(one), all(other));
    }

    /** From the least to the most number nothing answers BAD, and all others do. */
    void range(String name, int least, int most, int bad, Asking asking) {
        for (int number = least; number <= most; number++) {
            due.is(name + " " + number + " is taken", asking.with(number) == bad ? 0 : 1, 1);
        }
        int[] outside = {least - 1, most + 1, least - 2, most + 2, Integer.MIN_VALUE, Integer.MAX_VALUE,
            least + Integer.MIN_VALUE, most + Integer.MIN_VALUE, least - 65536, most + 65536};
        for (int number : outside) {
            due.is(name + " " + number, asking.with(number), bad);
        }
        // Numbers that are the same in their last 5, 8 or 16 bits, as shifts and narrow types see them.
        for (int number = least; number <= most; number++) {
            for (int more : new int[] {32, 64, 128, 256, 65536, -32, -64, -128, -256, -65536}) {
                int alike = number + more;
                if (alike < least || alike > most) {
                    due.is(name + " " + alike, asking.with(alike), bad);
                }
            }
        }
    }

    static RoofNet fresh(Telling told) {
        RoofNet net = new RoofNet();
        told.on(net);
        return net;
    }

    /** All that can be asked; 212 calls at most. The last of them move the fixed joints. */
    static String all(RoofNet net) {
        StringBuilder all = new StringBuilder();
        for (int what = 0; what <= 8; what++) {
            all.append("count ").append(what).append(": ").append(net.count(what)).append('\n');
        }
        all.append("fault: ").append(net.fault()).append('\n');
        int joints = net.count(0);
        int strands = net.count(2);
        for (int j = 0; j < joints; j++) {
            all.append("joint ").append(j).append(':');
            for (int what : new int[] {0, 4, 5, 6}) {
                all.append(' ').append(net.joint(j, what));
            }
            for (int axis = 0; axis < 3; axis++) {
                all.append(' ').append(net.exact(j, axis, 0)).append('/').append(net.exact(j, axis, 1));
            }
            all.append('\n');
        }
        for (int s = 0; s < strands; s++) {
            all.append("strand ").append(s).append(':');
            for (int what = 0; what <= 4; what++) {
                all.append(' ').append(net.strand(s, what));
            }
            all.append('\n');
        }
        appendToldPlaces(all, net, joints);
        return all.toString();
    }

    /** While some free joint is loose, only a move tells where a fixed one was. */
    private static void appendToldPlaces(StringBuilder all, RoofNet net, int joints) {
        for (int j = 0; j < joints; j++) {
            all.append("told ").append(j).append(':');
            for (int axis = 0; axis < 3; axis++) {
                all.append(' ').append(net.move(j, axis, 0));
            }
            all.append('\n');
        }
    }
}
