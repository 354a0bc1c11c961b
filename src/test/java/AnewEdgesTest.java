import java.util.ArrayDeque;
import java.util.Deque;

/** Promises 6 to 12: each sentence that names a boundary, by its words. */
public final class AnewEdgesTest {
    private static final int BAD = RoofNet.BAD, NO = RoofNet.NO;
    private static final Due due = new Due();
    private static final Twins twins = new Twins(due);

    public static void main(String[] args) {
        densityFrom1To5();
        wantedFrom0To99();
        loadFromMinus9To9();
        moveFrom0To60();
        downOrHung();
        alsoWhileSomeJointIsLoose();
        roundsFrom1To20();
        lengthsAboveAtAndBelow();
        densitiesStayFrom1To5();
        allAtOnce();
        roundsThatChangeNothing();
        roundsOfALooseNet();
        nothingToUndo();
        theLastSixCanBeUndone();
        eachKindIsUndone();
        refusedCallsAreNotKept();
        due.end();
    }

    private static RoofNet full() {
        return Due.laid(Nets.FULL);
    }

    /** The call is refused on a net with changes behind it, and on one with a loose joint, and leaves all. */
    private static void refused(String name, int answer, Twins.Call call) {
        twins.leavesAll(name, Nets::changeFirst, answer, call);
        if (answer == BAD) {
            twins.leavesAll(name + " while loose", Nets::layLoose, answer, call);
        }
    }

    /** "DENSITY of a STRAND (1 to 5): what it was. BAD; NO: it is so." */
    private static void densityFrom1To5() {
        twins.range("density", 1, 5, BAD, q -> new RoofNet().density(1, q));
        twins.range("density of strand", 0, 4, BAD, s -> new RoofNet().density(s, 5));
        twins.range("density of strand of many", 0, 13, BAD, s -> full().density(s, 5));
        due.is("density without strands", Due.laid("f1,1,1;").density(0, 1), BAD);
        for (int was = 1; was <= 5; was++) {
            for (int q = 1; q <= 5; q++) {
                RoofNet net = Due.laid("f0,0,0;f1,1,1;s0,1," + was + ",0;");
                due.is("density " + q + " in place of " + was, net.density(0, q), was == q ? NO : was);
                due.is("density then", net.strand(0, 2), q);
                due.is("changes then", net.count(5), was == q ? 0 : 1);
            }
        }
        refused("density 0", BAD, net -> net.density(0, 0));
        refused("density 6", BAD, net -> net.density(0, 6));
        refused("density of strand -1", BAD, net -> net.density(-1, 1));
        refused("density of strand 5", BAD, net -> net.density(5, 1));
        refused("density as it is", NO, net -> net.density(1, net.strand(1, 2)));
    }

    /** "What is WANTED of a STRAND (0 to 99): what was. BAD; NO: it is so." */
    private static void wantedFrom0To99() {
        twins.range("want", 0, 99, BAD, w -> new RoofNet().want(1, w));
        twins.range("want of strand", 0, 4, BAD, s -> new RoofNet().want(s, 99));
        twins.range("want of strand of many", 0, 13, BAD, s -> full().want(s, 99));
        due.is("want without strands", Due.laid("f1,1,1;").want(0, 1), BAD);
        for (int was : new int[] {0, 1, 50, 98, 99}) {
            for (int w : new int[] {0, 1, 50, 98, 99}) {
                RoofNet net = Due.laid("f0,0,0;f1,1,1;s0,1,1," + was + ";");
                due.is("wanted " + w + " in place of " + was, net.want(0, w), was == w ? NO : was);
                due.is("wanted then", net.strand(0, 3), w);
                due.is("changes then", net.count(5), was == w ? 0 : 1);
            }
        }
        refused("want -1", BAD, net -> net.want(0, -1));
        refused("want 100", BAD, net -> net.want(0, 100));
        refused("want of strand -1", BAD, net -> net.want(-1, 1));
        refused("want of strand 5", BAD, net -> net.want(5, 1));
        refused("want as it is", NO, net -> net.want(1, 17));
    }

    /** "LOAD of a FREE JOINT (-9 to 9): what it was, and 9. BAD (a FIXED one, too); NO: it is so." */
    private static void loadFromMinus9To9() {
        twins.range("load", -9, 9, BAD, l -> new RoofNet().load(5, l));
        twins.range("load of joint", 4, 5, BAD, j -> new RoofNet().load(j, 7));
        twins.range("load of joint of many", 5, 9, BAD, j -> full().load(j, -2));
        twins.range("load of the first joint alone", 0, 0, BAD, j -> Due.laid("u9;f1,1,1;").load(j, 1));
        for (int was : new int[] {-9, -1, 0, 1, 9}) {
            for (int l : new int[] {-9, -1, 0, 1, 9}) {
                RoofNet net = Due.laid("f0,0,0;u" + (was + 9) + ";s0,1,1,0;");
                due.is("load " + l + " in place of " + was, net.load(1, l), was == l ? NO : was + 9);
                due.is("load then", net.joint(1, 5), l + 9);
                due.is("place then", net.exact(1, 2, 0), l);
                due.is("changes then", net.count(5), was == l ? 0 : 1);
            }
        }
        refused("load -10", BAD, net -> net.load(net.count(0) == 3 ? 1 : 4, -10));
        refused("load 10", BAD, net -> net.load(net.count(0) == 3 ? 1 : 4, 10));
        refused("load of a fixed joint", BAD, net -> net.load(0, 1));
        refused("load of a fixed joint, none as it has", BAD, net -> net.load(0, 0));
        refused("load of joint -1", BAD, net -> net.load(-1, 1));
        refused("load of joint 6", BAD, net -> net.load(6, 1));
        refused("load as it is", NO, net -> net.load(4, -5));
    }

    /** "Where a FIXED JOINT is along X, Y, Z (0 to 60): where it was. BAD (a FREE one, too); NO: it is so." */
    private static void moveFrom0To60() {
        for (int axis = 0; axis < 3; axis++) {
            int along = axis;
            twins.range("move along " + axis + " to", 0, 60, BAD, v -> new RoofNet().move(1, along, v));
            for (int was : new int[] {0, 1, 30, 59, 60}) {
                for (int v : new int[] {0, 1, 30, 59, 60}) {
                    RoofNet net = Due.laid(("f" + was + "," + was + "," + was + ";").repeat(2));
                    due.is("move to " + v + " from " + was, net.move(1, axis, v), was == v ? NO : was);
                    due.is("changes then", net.count(5), was == v ? 0 : 1);
                    for (int a = 0; a < 3; a++) {
                        due.is("where it is then", net.exact(1, a, 0), a == axis ? v : was);
                        due.is("the other one stays", net.exact(0, a, 0), was);
                    }
                }
            }
        }
        twins.range("move along", 0, 2, BAD, axis -> new RoofNet().move(1, axis, 7));
        twins.range("move of joint", 0, 3, BAD, j -> new RoofNet().move(j, 0, 7));
        twins.range("move of joint of many", 0, 4, BAD, j -> full().move(j, 0, 7));
        twins.range("move of the last joint alone", 1, 1, BAD, j -> Due.laid("u9;f1,1,1;").move(j, 2, 7));
        refused("move to -1", BAD, net -> net.move(0, 0, -1));
        refused("move to 61", BAD, net -> net.move(0, 0, 61));
        refused("move along -1", BAD, net -> net.move(0, -1, 1));
        refused("move along 3", BAD, net -> net.move(0, 3, 1));
        refused("move of a free joint", BAD, net -> net.move(net.count(0) == 3 ? 1 : 4, 0, 1));
        refused("move of joint -1", BAD, net -> net.move(-1, 0, 1));
        refused("move of joint 6", BAD, net -> net.move(6, 0, 1));
        refused("move where it is", NO, net -> net.move(2, 1, 33));
    }

    /** "A STRAND is DOWN (is = 1) or hangs (0): how many hang then. BAD; NO: it is so." */
    private static void downOrHung() {
        twins.range("down, is", 0, 1, BAD, is -> new RoofNet().down(0, is));
        twins.range("down of strand", 0, 4, BAD, s -> new RoofNet().down(s, 1));
        twins.range("down of strand of many", 0, 13, BAD, s -> full().down(s, 1));
        due.is("down without strands", Due.laid("f1,1,1;").down(0, 1), BAD);
        RoofNet net = full();
        for (int s = 0; s < 14; s++) {
            due.is("it hangs: down(" + s + ", 0)", net.down(s, 0), NO);
            due.is("down(" + s + ", 1)", net.down(s, 1), 13 - s);
            due.is("it is down: down(" + s + ", 1)", net.down(s, 1), NO);
            due.is("strand(" + s + ", 4)", net.strand(s, 4), 1);
        }
        due.is("none hangs", net.count(3), 0);
        for (int s = 13; s >= 0; s--) {
            due.is("down(" + s + ", 0)", net.down(s, 0), 14 - s);
            due.is("strand(" + s + ", 4)", net.strand(s, 4), 0);
        }
        refused("down, is 2", BAD, one -> one.down(0, 2));
        refused("down, is -1", BAD, one -> one.down(0, -1));
        refused("down of strand -1", BAD, one -> one.down(-1, 1));
        refused("down of strand 5", BAD, one -> one.down(5, 1));
        refused("down of one that is", NO, one -> one.down(3, 1));
        refused("hung of one that is", NO, one -> one.down(2, 0));
    }

    /** What is told anew does not ask whether all free joints are hung. */
    private static void alsoWhileSomeJointIsLoose() {
        due.is("loose: density", Twins.fresh(Nets::layLoose).density(0, 5), 3);
        due.is("loose: density of one that is down", Twins.fresh(Nets::layLoose).density(1, 5), 3);
        due.is("loose: want", Twins.fresh(Nets::layLoose).want(0, 5), 7);
        due.is("loose: load", Twins.fresh(Nets::layLoose).load(1, 4), 12);
        due.is("loose: move", Twins.fresh(Nets::layLoose).move(0, 2, 9), 5);
        due.is("loose: down", Twins.fresh(Nets::layLoose).down(0, 1), 0);
        due.is("loose: hung again", Twins.fresh(Nets::layLoose).down(1, 0), 2);
        due.is("loose: undo", Twins.fresh(Nets::layLoose).undo(), 2);
        twins.leavesAll("loose: density as it is", Nets::layLoose, NO, net -> net.density(0, 3));
        twins.leavesAll("loose: want as it is", Nets::layLoose, NO, net -> net.want(0, 7));
        twins.leavesAll("loose: load as it is", Nets::layLoose, NO, net -> net.load(1, 3));
        twins.leavesAll("loose: move where it is", Nets::layLoose, NO, net -> net.move(2, 1, 8));
        twins.leavesAll("loose: down as it is", Nets::layLoose, NO, net -> net.down(1, 1));
    }

    /** "n ROUNDS (1 to 20) are done: in how many of them a DENSITY changed. BAD". */
    private static void roundsFrom1To20() {
        twins.range("round", 1, 20, BAD, n -> new RoofNet().round(n));
        for (int n = 1; n <= 20; n++) {
            RoofNet never = new RoofNet();
            due.is("never settled: round(" + n + ")", never.round(n), n);
            due.is("one change", never.count(5), 1);
            // Strand 0 goes from 1 to 5, strand 1 from 3 to 1.
            RoofNet four = Due.laid("f0,0,0;f5,0,0;f0,5,0;s0,1,1,4;s0,2,3,6;");
            due.is("round(" + n + ") of four", four.round(n), Math.min(n, 4));
            due.is("density 0 behind " + n, four.strand(0, 2), Math.min(1 + n, 5));
            due.is("density 1 behind " + n, four.strand(1, 2), Math.max(3 - n, 1));
        }
        RoofNet twenty = new RoofNet();
        RoofNet byOne = new RoofNet();
        twenty.round(20);
        for (int n = 0; n < 20; n++) {
            byOne.round(1);
        }
        for (int s = 0; s < 5; s++) {
            due.is("20 at once and one by one, strand " + s, twenty.strand(s, 2), byOne.strand(s, 2));
        }
        refused("round(0)", BAD, net -> net.round(0));
        refused("round(-1)", BAD, net -> net.round(-1));
        refused("round(21)", BAD, net -> net.round(21));
    }

    /** "with LENGTH above 100 W its DENSITY is 1 more, below 100 W 1 less". */
    private static void lengthsAboveAtAndBelow() {
        RoofNet net = Due.laid(Nets.NEAR);
        due.is("round(1) of near ones", net.round(1), 1);
        due.is("a hundredth below", net.strand(0, 2), 2);
        due.is("a hundredth above", net.strand(1, 2), 4);
        due.is("as wanted, cut", net.strand(2, 2), 3);
        due.is("as wanted", net.strand(3, 2), 3);
        RoofNet unwanted = Due.laid(Nets.NEAR);
        unwanted.want(0, 0);
        unwanted.down(1, 1);
        due.is("nothing wanted, or down: round(1)", unwanted.round(1), 0);
        due.is("nothing is wanted of it", unwanted.strand(0, 2), 3);
        due.is("it is down", unwanted.strand(1, 2), 3);
    }

    /** "1 more (5 at most)", "1 less (1 at least)". */
    private static void densitiesStayFrom1To5() {
        for (int q = 1; q <= 5; q++) {
            RoofNet more = Due.laid("f0,0,0;f50,0,0;s0,1," + q + ",49;");
            due.is("round(1) with more from " + q, more.round(1), q == 5 ? 0 : 1);
            due.is("more than " + q, more.strand(0, 2), Math.min(5, q + 1));
            RoofNet less = Due.laid("f0,0,0;f50,0,0;s0,1," + q + ",51;");
            due.is("round(1) with less from " + q, less.round(1), q == 1 ? 0 : 1);
            due.is("less than " + q, less.strand(0, 2), Math.max(1, q - 1));
        }
    }

    /** "all at once by LENGTHS ahead of it": strand 1 would be too long, were strand 0 thicker already. */
    private static void allAtOnce() {
        RoofNet net = Due.laid("f0,0,0;f20,0,0;u9;s0,2,1,9;s1,2,1,10;");
        due.is("round(1)", net.round(1), 1);
        due.is("strand 0", net.strand(0, 2), 2);
        due.is("strand 1", net.strand(1, 2), 1);
        due.is("round(1) again", net.round(1), 1);
        due.is("strand 0 again", net.strand(0, 2), 1);
        due.is("strand 1 again", net.strand(1, 2), 2);
    }

    /** "(one change, also if no DENSITY does)", "such by which nothing becomes another, too". */
    private static void roundsThatChangeNothing() {
        RoofNet net = Due.laid("f0,0,0;f5,0,0;s0,1,2,5;");
        for (int kept = 1; kept <= 6; kept++) {
            due.is("round(20) that changes nothing", net.round(20), 0);
            due.is("changes then", net.count(5), kept);
        }
        due.is("the seventh", net.round(1), 0);
        due.is("six of them can be undone", net.count(5), 6);
        for (int more = 5; more >= 0; more--) {
            due.is("undo()", net.undo(), more);
        }
        due.is("undo() of none", net.undo(), NO);
        RoofNet bare = Due.laid("f0,0,0;");
        due.is("round(20) without strands", bare.round(20), 0);
        due.is("a change without strands", bare.count(5), 1);
        due.is("undo() of it", bare.undo(), 0);
        RoofNet pushedOut = Due.laid("f0,0,0;f5,0,0;s0,1,2,5;");
        pushedOut.density(0, 3);
        for (int i = 0; i < 6; i++) {
            pushedOut.round(1);
        }
        for (int i = 0; i < 6; i++) {
            pushedOut.undo();
        }
        due.is("the change of density is the seventh", pushedOut.undo(), NO);
        due.is("and stays", pushedOut.strand(0, 2), 3);
    }

    /** "NO: some FREE JOINT is not HUNG." */
    private static void roundsOfALooseNet() {
        twins.leavesAll("loose: round(1)", Nets::layLoose, NO, net -> net.round(1));
        twins.leavesAll("loose: round(20)", Nets::layLoose, NO, net -> net.round(20));
        twins.leavesAll("BAD comes ahead of NO: round(0)", Nets::layLoose, BAD, net -> net.round(0));
        twins.leavesAll("BAD comes ahead of NO: round(21)", Nets::layLoose, BAD, net -> net.round(21));
        RoofNet net = Twins.fresh(Nets::layLoose);
        net.down(1, 0);
        due.is("hung again: round(1)", net.round(1), 1);
        due.is("one free joint alone: round(1)", Due.laid("u9;").round(1), NO);
    }

    /** "UNDONE: how many more can be. NO." */
    private static void nothingToUndo() {
        twins.leavesAll("undo() on a new object", net -> { }, NO, RoofNet::undo);
        twins.leavesAll("undo() behind lay()", Nets::layFull, NO, RoofNet::undo);
        twins.leavesAll("undo() behind a change that is undone", net -> {
            net.density(0, 5);
            net.undo();
            Due.write(net, "u9;");
        }, NO, RoofNet::undo);
        twins.leavesAll("undo() behind changes and lay()", net -> {
            Nets.changeFirst(net);
            net.lay();
        }, NO, RoofNet::undo);
    }

    /** "UNDONE is the latest change (the last 6 can be". */
    private static void theLastSixCanBeUndone() {
        for (int changes = 0; changes <= 20; changes++) {
            RoofNet net = new RoofNet();
            for (int w = 1; w <= changes; w++) {
                net.want(1, w);
                due.is("changes behind " + w, net.count(5), Math.min(w, 6));
            }
            int kept = Math.min(changes, 6);
            for (int i = 1; i <= kept; i++) {
                due.is("undo() " + i + " of " + changes, net.undo(), kept - i);
                due.is("wanted then", net.strand(1, 3), changes - i);
            }
            due.is("undo() past the last of " + changes, net.undo(), NO);
            due.is("wanted still", net.strand(1, 3), changes - kept);
        }
        mixedChangesAndUndos();
    }

    /** Some changes, some undone, round and round the six places that are kept. */
    private static void mixedChangesAndUndos() {
        for (int back = 1; back <= 7; back++) {
            for (int forth = 1; forth <= 9; forth++) {
                RoofNet net = new RoofNet();
                Deque<Integer> past = new ArrayDeque<>();
                int now = 0;
                int next = 0;
                for (int turn = 0; turn < 6; turn++) {
                    for (int i = 0; i < forth; i++) {
                        next++;
                        due.is("want(1, " + next + ")", net.want(1, next), now);
                        past.push(now);
                        now = next;
                        if (past.size() > 6) {
                            past.removeLast();
                        }
                    }
                    for (int i = 0; i < back; i++) {
                        due.is("undo()", net.undo(), past.isEmpty() ? NO : past.size() - 1);
                        now = past.isEmpty() ? now : past.pop();
                        due.is("wanted behind undo()", net.strand(1, 3), now);
                    }
                }
            }
        }
    }

    /** "a DENSITY, what is WANTED, a LOAD, where a FIXED JOINT is told anew; a STRAND DOWN or hung again; ROUNDS". */
    private static void eachKindIsUndone() {
        Twins.Call[] changes = {net -> net.density(0, 4), net -> net.want(1, 17), net -> net.load(4, -5),
            net -> net.move(2, 1, 33), net -> net.down(3, 1), net -> net.down(3, 0), net -> net.round(1),
            net -> net.round(20)};
        for (int last = 0; last < changes.length; last++) {
            RoofNet without = new RoofNet();
            RoofNet undone = new RoofNet();
            // Hung again is only one that is down.
            if (last == 5) {
                changes[4].on(without);
                changes[4].on(undone);
            }
            due.is("change " + last + " is done", changes[last].on(undone) >= 0 ? 1 : 0, 1);
            due.is("undo() of change " + last, undone.undo(), last == 5 ? 1 : 0);
            due.same("change " + last + " undone", Twins.all(undone), Twins.all(without));
        }
    }

    /** "nothing changes then": what is refused can't be undone either. */
    private static void refusedCallsAreNotKept() {
        RoofNet net = new RoofNet();
        net.want(1, 5);
        int[] answers = {net.density(0, 1), net.want(1, 5), net.load(4, 0), net.move(0, 0, 0), net.down(0, 0),
            net.density(0, 6), net.want(1, 100), net.load(4, 10), net.move(0, 0, 61), net.down(0, 2), net.round(21)};
        for (int i = 0; i < answers.length; i++) {
            due.is("refused call " + i, answers[i], i < 5 ? NO : BAD);
        }
        due.is("one change alone", net.count(5), 1);
        due.is("it is undone", net.undo(), 0);
        due.is("what was wanted", net.strand(1, 3), 0);
    }
}
