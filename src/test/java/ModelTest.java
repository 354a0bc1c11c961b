/** Promises 1 to 24: long runs of calls, each answer held against NaiveNet's. */
public final class ModelTest {
    private static final Due due = new Due();
    private static final int RUNS = 400;
    private static final int MOST_CALLS = 512;
    private long state;
    private int run;
    private int calls;
    private RoofNet net;
    private NaiveNet naive;

    public static void main(String[] args) {
        int runs = args.length > 1 ? Integer.parseInt(args[1]) : RUNS;
        ModelTest test = new ModelTest();
        for (int run = 1; run <= runs; run++) {
            test.oneRun(run);
        }
        due.end();
    }

    /** The same numbers every time, so that a fault comes again. */
    private int below(int bound) {
        state = state * 6364136223846793005L + 1442695040888963407L;
        return (int) Math.floorMod(state >>> 33, (long) bound);
    }

    private boolean oneIn(int n) {
        return below(n) == 0;
    }

    /** From one too few to one too many, and now and then far off. */
    private int around(int least, int most) {
        if (oneIn(40)) {
            return oneIn(2) ? Integer.MIN_VALUE : Integer.MAX_VALUE;
        }
        return oneIn(8) ? least - 1 + below(most - least + 3) : least + below(most - least + 1);
    }

    private void oneRun(int number) {
        run = number;
        state = number * 7919L;
        calls = 0;
        net = new RoofNet();
        naive = new NaiveNet();
        while (calls < MOST_CALLS) {
            if (calls == 0 && !oneIn(4) || oneIn(100)) {
                tellText(text());
            } else {
                call();
            }
        }
    }

    private void hold(String call, long got, long wanted) {
        calls++;
        due.is("run " + run + ", call " + calls + ": " + call, got, wanted);
    }

    private void tellText(String text) {
        if (!oneIn(5)) {
            hold("wipe()", net.wipe(), naive.wipe());
        }
        for (int i = 0; i < text.length() && calls < MOST_CALLS; i++) {
            hold("write", net.write(text.charAt(i)), naive.write(text.charAt(i)));
        }
        if (calls + 2 <= MOST_CALLS) {
            hold("fault()", net.fault(), naive.fault());
            hold("lay()", net.lay(), naive.lay());
        }
    }

    private String text() {
        StringBuilder text = new StringBuilder();
        int joints = 1 + below(10);
        StringBuilder free = new StringBuilder();
        int most = below(12) == 0 ? 6 : 5;
        for (int j = 0; j < joints; j++) {
            if (oneIn(2) && free.length() < most) {
                text.append('u').append(below(19)).append(';');
                free.append((char) ('0' + j));
            } else {
                int far = oneIn(3) ? 10 : 61;
                text.append('f').append(below(far)).append(',').append(below(far));
                text.append(',').append(below(far)).append(';');
            }
        }
        addStrands(text, joints, free);
        if (!oneIn(3)) {
            text.append('r').append(1 + below(99)).append(',').append(below(51)).append(';');
        }
        spoil(text);
        return text.toString();
    }

    private void addStrands(StringBuilder text, int joints, StringBuilder free) {
        int[] ofJoint = new int[joints];
        boolean[] taken = new boolean[100];
        int strands = 0;
        for (int tries = 0; tries < 60 && strands < 14 && text.length() < 185; tries++) {
            boolean wild = oneIn(300);
            int a = free.length() > 0 && oneIn(2) ? free.charAt(below(free.length())) - '0' : below(joints);
            int b = wild ? below(joints + 2) : below(joints);
            boolean sparse = oneIn(3) && tries > 20;
            boolean fits = a != b && b < joints && !taken[10 * a + b] && !sparse
                && (free.indexOf("" + a) < 0 || ofJoint[a] < 4) && (free.indexOf("" + b) < 0 || ofJoint[b] < 4);
            if (!fits && !wild) {
                continue;
            }
            if (fits) {
                taken[10 * a + b] = true;
                taken[10 * b + a] = true;
                ofJoint[a]++;
                ofJoint[b]++;
            }
            strands++;
            text.append('s').append(a).append(',').append(b).append(',').append(1 + below(5)).append(',');
            text.append(oneIn(3) ? 0 : below(oneIn(2) ? 100 : 30)).append(';');
        }
    }

    private void spoil(StringBuilder text) {
        if (oneIn(6) && text.length() > 0) {
            String signs = ",;0959fusrx -";
            text.setCharAt(below(text.length()), signs.charAt(below(signs.length())));
        }
        if (oneIn(12)) {
            text.setLength(below(text.length() + 1));
        }
    }

    private void call() {
        int j = around(0, Math.max(0, naive.count(0) - 1));
        int s = around(0, Math.max(0, naive.count(2) - 1));
        switch (below(24)) {
            case 0 -> tellAnew(j, s);
            case 1 -> tellAnew(j, s);
            case 2 -> tellAnew(j, s);
            case 3 -> tellAnew(j, s);
            case 4 -> hold("undo()", net.undo(), naive.undo());
            case 5 -> askText();
            default -> ask(j, s);
        }
    }

    private void askText() {
        if (oneIn(2)) {
            hold("fault()", net.fault(), naive.fault());
        } else if (oneIn(3)) {
            hold("lay()", net.lay(), naive.lay());
        } else {
            int letter = around(32, 126);
            hold("write(" + letter + ")", net.write(letter), naive.write(letter));
        }
    }

    private void tellAnew(int j, int s) {
        switch (below(6)) {
            case 0 -> {
                int q = around(1, 5);
                hold("density(" + s + ", " + q + ")", net.density(s, q), naive.density(s, q));
            }
            case 1 -> {
                int w = around(0, oneIn(2) ? 99 : 5);
                hold("want(" + s + ", " + w + ")", net.want(s, w), naive.want(s, w));
            }
            case 2 -> {
                int l = around(-9, 9);
                hold("load(" + j + ", " + l + ")", net.load(j, l), naive.load(j, l));
            }
            case 3 -> {
                int axis = around(0, 2);
                int v = around(0, 60);
                hold("move(" + j + ", " + axis + ", " + v + ")", net.move(j, axis, v), naive.move(j, axis, v));
            }
            case 4 -> {
                int is = oneIn(3) ? around(0, 1) : 0;
                hold("down(" + s + ", " + is + ")", net.down(s, is), naive.down(s, is));
            }
            default -> {
                int n = around(1, 20);
                hold("round(" + n + ")", net.round(n), naive.round(n));
            }
        }
    }

    private void ask(int j, int s) {
        int axis = around(0, 2);
        int one = around(0, 1);
        int what;
        switch (below(14)) {
            case 0, 1 -> {
                what = around(0, 7);
                hold("joint(" + j + ", " + what + ")", net.joint(j, what), naive.joint(j, what));
            }
            case 2, 3 -> hold("exact(" + j + ", " + axis + ", " + one + ")",
                net.exact(j, axis, one), naive.exact(j, axis, one));
            case 4 -> hold("bears(" + j + ", " + axis + ")", net.bears(j, axis), naive.bears(j, axis));
            case 5, 6 -> {
                what = around(0, 8);
                hold("strand(" + s + ", " + what + ")", net.strand(s, what), naive.strand(s, what));
            }
            case 7 -> hold("slack()", net.slack(), naive.slack());
            case 8 -> hold("miss()", net.miss(), naive.miss());
            case 9 -> askSlow(one);
            case 10 -> hold("greatest(" + one + ")", net.greatest(one), naive.greatest(one));
            case 11 -> hold("rolls(" + axis + ")", net.rolls(axis), naive.rolls(axis));
            case 12 -> hold("rollOf(" + s + ")", net.rollOf(s), naive.rollOf(s));
            default -> {
                what = around(0, 8);
                hold("count(" + what + ")", net.count(what), naive.count(what));
            }
        }
    }

    private void askSlow(int one) {
        if (oneIn(2)) {
            hold("settle(" + one + ")", net.settle(one), naive.settle(one));
        } else {
            hold("better(" + one + ")", net.better(one), naive.better(one));
        }
    }
}
