import java.math.BigInteger;
import java.util.ArrayDeque;
import java.util.ArrayList;
import java.util.Arrays;
import java.util.Deque;
import java.util.List;
import java.util.regex.Matcher;
import java.util.regex.Pattern;

/** The document once more, in the most plodding way and with the Java library, to be held against RoofNet. */
final class NaiveNet {
    private static final int BAD = -1, NO = -2, FULL = -3, NONE = -4;
    private static final Pattern ITEM = Pattern.compile(
        "(?:f(\\d\\d?),(\\d\\d?),(\\d\\d?)|u(\\d\\d?)|s(\\d\\d?),(\\d\\d?),(\\d\\d?),(\\d\\d?)|r(\\d\\d?),(\\d\\d?));");

    private record Fraction(BigInteger above, BigInteger below) {
        static Fraction of(long value) {
            return new Fraction(BigInteger.valueOf(value), BigInteger.ONE);
        }

        private static Fraction lowest(BigInteger above, BigInteger below) {
            BigInteger shared = above.gcd(below);
            if (below.signum() < 0) {
                shared = shared.negate();
            }
            return new Fraction(above.divide(shared), below.divide(shared));
        }

        Fraction plus(Fraction o) {
            return lowest(above.multiply(o.below).add(o.above.multiply(below)), below.multiply(o.below));
        }

        Fraction times(Fraction o) {
            return lowest(above.multiply(o.above), below.multiply(o.below));
        }

        Fraction minus(Fraction o) {
            return plus(o.times(of(-1)));
        }

        Fraction over(Fraction o) {
            return lowest(above.multiply(o.below), below.multiply(o.above));
        }

        int compare(Fraction o) {
            return minus(o).above.signum();
        }

        long hundredths() {
            return Math.floorDiv(above.longValueExact() * 100, below.longValueExact());
        }
    }

    private static final class Joint {
        boolean free;
        int[] at = new int[3];
        int load;

        Joint copy() {
            Joint c = new Joint();
            c.free = free;
            c.at = at.clone();
            c.load = load;
            return c;
        }
    }

    private static final class Strand {
        int a, b, q, w;
        boolean down;

        Strand copy() {
            Strand c = new Strand();
            c.a = a;
            c.b = b;
            c.q = q;
            c.w = w;
            c.down = down;
            return c;
        }

        boolean touches(int j) {
            return a == j || b == j;
        }

        int other(int j) {
            return a == j ? b : a;
        }
    }

    private static final class Roof {
        List<Joint> joints = new ArrayList<>();
        List<Strand> strands = new ArrayList<>();
        int r = 40, e = 10;

        Roof copy() {
            Roof c = new Roof();
            joints.forEach(j -> c.joints.add(j.copy()));
            strands.forEach(s -> c.strands.add(s.copy()));
            c.r = r;
            c.e = e;
            return c;
        }

        boolean hung(int j, int without) {
            return reaches(j, without, new ArrayList<>());
        }

        private boolean reaches(int j, int without, List<Integer> seen) {
            if (!joints.get(j).free) {
                return true;
            }
            seen.add(j);
            for (int s = 0; s < strands.size(); s++) {
                Strand t = strands.get(s);
                if (s != without && !t.down && t.touches(j) && !seen.contains(t.other(j))
                    && reaches(t.other(j), without, seen)) {
                    return true;
                }
            }
            return false;
        }

        boolean allHung(int without) {
            for (int j = 0; j < joints.size(); j++) {
                if (!hung(j, without)) {
                    return false;
                }
            }
            return true;
        }

        /** One unknown for each joint, fixed ones too, with pivots looked for. */
        Fraction[] places(int axis) {
            int n = joints.size();
            Fraction[][] m = new Fraction[n][n + 1];
            for (int i = 0; i < n; i++) {
                Arrays.fill(m[i], Fraction.of(0));
                Joint joint = joints.get(i);
                if (!joint.free) {
                    m[i][i] = Fraction.of(1);
                    m[i][n] = Fraction.of(joint.at[axis]);
                    continue;
                }
                if (axis == 2) {
                    m[i][n] = Fraction.of(-joint.load);
                }
                for (Strand t : strands) {
                    if (!t.down && t.touches(i)) {
                        m[i][t.other(i)] = m[i][t.other(i)].plus(Fraction.of(t.q));
                        m[i][i] = m[i][i].minus(Fraction.of(t.q));
                    }
                }
            }
            for (int c = 0; c < n; c++) {
                int p = c;
                while (m[p][c].above().signum() == 0) {
                    p++;
                }
                Fraction[] swap = m[p];
                m[p] = m[c];
                m[c] = swap;
                for (int i = 0; i < n; i++) {
                    if (i != c && m[i][c].above().signum() != 0) {
                        Fraction factor = m[i][c].over(m[c][c]);
                        for (int k = 0; k <= n; k++) {
                            m[i][k] = m[i][k].minus(factor.times(m[c][k]));
                        }
                    }
                }
            }
            Fraction[] found = new Fraction[n];
            for (int i = 0; i < n; i++) {
                found[i] = m[i][n].over(m[i][i]);
            }
            return found;
        }

        int[] lengths() {
            long[] squares = new long[strands.size()];
            for (int axis = 0; axis < 3; axis++) {
                Fraction[] at = places(axis);
                for (int s = 0; s < squares.length; s++) {
                    long way = at[strands.get(s).a].hundredths() - at[strands.get(s).b].hundredths();
                    squares[s] += way * way;
                }
            }
            int[] found = new int[squares.length];
            for (int s = 0; s < squares.length; s++) {
                found[s] = BigInteger.valueOf(squares[s]).sqrt().intValueExact();
            }
            return found;
        }

        int miss() {
            int[] lengths = lengths();
            int sum = 0;
            for (int s = 0; s < lengths.length; s++) {
                Strand t = strands.get(s);
                if (!t.down && t.w > 0) {
                    sum += Math.abs(lengths[s] - 100 * t.w);
                }
            }
            return sum;
        }

        boolean round() {
            int[] lengths = lengths();
            boolean changed = false;
            for (int s = 0; s < lengths.length; s++) {
                Strand t = strands.get(s);
                if (t.down || t.w == 0) {
                    continue;
                }
                if (lengths[s] > 100 * t.w && t.q < 5) {
                    t.q++;
                    changed = true;
                } else if (lengths[s] < 100 * t.w && t.q > 1) {
                    t.q--;
                    changed = true;
                }
            }
            return changed;
        }
    }

    private StringBuilder text = new StringBuilder();
    private Roof roof;
    private final Deque<Roof> past = new ArrayDeque<>();
    private Roof read;

    NaiveNet() {
        text.append("f0,0,10;f40,0,30;f0,40,20;f40,40,5;u9;u4;s0,4,1,30;s1,4,2,0;");
        text.append("s4,5,3,18;s2,5,1,25;s3,5,2,30;r60,5;");
        lay();
        text = new StringBuilder();
    }

    int write(int letter) {
        if (letter < 32 || letter > 126) {
            return BAD;
        }
        if (text.length() == 200) {
            return FULL;
        }
        text.append((char) letter);
        return text.length();
    }

    int wipe() {
        int was = text.length();
        text = new StringBuilder();
        return was;
    }

    int fault() {
        read = new Roof();
        Matcher m = ITEM.matcher(text);
        int at = 0;
        while (at < text.length()) {
            m.region(at, text.length());
            if (!m.lookingAt() || !take(m)) {
                return at;
            }
            at = m.end();
        }
        return NONE;
    }

    private static int number(Matcher m, int group) {
        return Integer.parseInt(m.group(group));
    }

    private boolean take(Matcher m) {
        if (m.group(1) != null || m.group(4) != null) {
            Joint joint = new Joint();
            joint.free = m.group(4) != null;
            if (joint.free) {
                joint.load = number(m, 4) - 9;
            } else {
                joint.at = new int[] {number(m, 1), number(m, 2), number(m, 3)};
            }
            read.joints.add(joint);
            return joint.load <= 9 && Arrays.stream(joint.at).allMatch(v -> v <= 60)
                && read.joints.size() <= 10 && read.joints.stream().filter(j -> j.free).count() <= 5;
        }
        if (m.group(9) != null) {
            read.r = number(m, 9);
            read.e = number(m, 10);
            return read.r >= 1 && read.e <= 50;
        }
        Strand t = new Strand();
        t.a = number(m, 5);
        t.b = number(m, 6);
        t.q = number(m, 7);
        t.w = number(m, 8);
        int n = read.joints.size();
        if (t.a >= n || t.b >= n || t.a == t.b || t.q < 1 || t.q > 5) {
            return false;
        }
        for (Strand o : read.strands) {
            if (o.touches(t.a) && o.touches(t.b)) {
                return false;
            }
        }
        read.strands.add(t);
        for (int j = 0; j < n; j++) {
            int end = j;
            if (read.joints.get(j).free && read.strands.stream().filter(o -> o.touches(end)).count() > 4) {
                return false;
            }
        }
        return read.strands.size() <= 14;
    }

    int lay() {
        if (fault() != NONE || read.joints.isEmpty()) {
            return NO;
        }
        roof = read;
        past.clear();
        return roof.joints.size();
    }

    private void keep() {
        past.push(roof.copy());
        if (past.size() > 6) {
            past.removeLast();
        }
    }

    private boolean noStrand(int s) {
        return s < 0 || s >= roof.strands.size();
    }

    private boolean noJoint(int j) {
        return j < 0 || j >= roof.joints.size();
    }

    int density(int s, int q) {
        if (noStrand(s) || q < 1 || q > 5) {
            return BAD;
        }
        int was = roof.strands.get(s).q;
        if (was == q) {
            return NO;
        }
        keep();
        roof.strands.get(s).q = q;
        return was;
    }

    int want(int s, int w) {
        if (noStrand(s) || w < 0 || w > 99) {
            return BAD;
        }
        int was = roof.strands.get(s).w;
        if (was == w) {
            return NO;
        }
        keep();
        roof.strands.get(s).w = w;
        return was;
    }

    int load(int j, int l) {
        if (noJoint(j) || !roof.joints.get(j).free || l < -9 || l > 9) {
            return BAD;
        }
        int was = roof.joints.get(j).load;
        if (was == l) {
            return NO;
        }
        keep();
        roof.joints.get(j).load = l;
        return was + 9;
    }

    int move(int j, int axis, int v) {
        if (noJoint(j) || roof.joints.get(j).free || axis < 0 || axis > 2 || v < 0 || v > 60) {
            return BAD;
        }
        int was = roof.joints.get(j).at[axis];
        if (was == v) {
            return NO;
        }
        keep();
        roof.joints.get(j).at[axis] = v;
        return was;
    }

    int down(int s, int is) {
        if (noStrand(s) || is < 0 || is > 1) {
            return BAD;
        }
        if (roof.strands.get(s).down == (is == 1)) {
            return NO;
        }
        keep();
        roof.strands.get(s).down = is == 1;
        return count(3);
    }

    int round(int n) {
        if (n < 1 || n > 20) {
            return BAD;
        }
        if (!roof.allHung(-1)) {
            return NO;
        }
        keep();
        int changed = 0;
        for (int i = 0; i < n; i++) {
            changed += roof.round() ? 1 : 0;
        }
        return changed;
    }

    int undo() {
        if (past.isEmpty()) {
            return NO;
        }
        roof = past.pop();
        return past.size();
    }

    int joint(int j, int what) {
        if (noJoint(j) || what < 0 || what > 7) {
            return BAD;
        }
        Joint joint = roof.joints.get(j);
        if (what == 0) {
            return joint.free ? 1 : 0;
        }
        if (what == 4) {
            int bits = 0;
            for (int s = 0; s < roof.strands.size(); s++) {
                Strand t = roof.strands.get(s);
                bits += !t.down && t.touches(j) ? 1 << s : 0;
            }
            return bits;
        }
        if (what == 5) {
            return joint.load + 9;
        }
        if (what == 6) {
            return roof.hung(j, -1) ? 1 : 0;
        }
        if (!roof.allHung(-1)) {
            return NO;
        }
        if (what == 7) {
            return !joint.free || within(j) ? 1 : 0;
        }
        return (int) (1000000 + roof.places(what - 1)[j].hundredths());
    }

    private boolean within(int j) {
        for (int axis = 0; axis < 3; axis++) {
            Fraction[] at = roof.places(axis);
            Fraction least = null;
            Fraction most = null;
            for (Strand t : roof.strands) {
                if (!t.down && t.touches(j)) {
                    Fraction other = at[t.other(j)];
                    least = least == null || other.compare(least) < 0 ? other : least;
                    most = most == null || other.compare(most) > 0 ? other : most;
                }
            }
            if (at[j].compare(least) < 0 || at[j].compare(most) > 0) {
                return false;
            }
        }
        return true;
    }

    int exact(int j, int axis, int part) {
        if (noJoint(j) || axis < 0 || axis > 2 || part < 0 || part > 1) {
            return -2000000000;
        }
        if (!roof.allHung(-1)) {
            return -2000000001;
        }
        Fraction at = roof.places(axis)[j];
        return (part == 0 ? at.above() : at.below()).intValueExact();
    }

    int bears(int j, int axis) {
        if (noJoint(j) || roof.joints.get(j).free || axis < 0 || axis > 2) {
            return BAD;
        }
        if (!roof.allHung(-1)) {
            return NO;
        }
        Fraction[] at = roof.places(axis);
        long sum = 1000000;
        for (Strand t : roof.strands) {
            if (!t.down && t.touches(j)) {
                sum += t.q * (at[t.other(j)].hundredths() - at[j].hundredths());
            }
        }
        return (int) sum;
    }

    int strand(int s, int what) {
        if (noStrand(s) || what < 0 || what > 8) {
            return BAD;
        }
        Strand t = roof.strands.get(s);
        if (what < 5) {
            return new int[] {t.a, t.b, t.q, t.w, t.down ? 1 : 0}[what];
        }
        if (!roof.allHung(-1)) {
            return NO;
        }
        if (t.down || what == 7 && t.w == 0) {
            return NONE;
        }
        if (what == 8) {
            return roof.allHung(s) ? 0 : 1;
        }
        int length = roof.lengths()[s];
        return what == 5 ? length : what == 6 ? length * t.q : Math.abs(length - 100 * t.w);
    }

    int slack() {
        if (!roof.allHung(-1)) {
            return NO;
        }
        int[] lengths = roof.lengths();
        int bits = 0;
        for (int s = 0; s < lengths.length; s++) {
            Strand t = roof.strands.get(s);
            bits += !t.down && t.w > 0 && lengths[s] < 100 * t.w ? 1 << s : 0;
        }
        return bits;
    }

    int miss() {
        return roof.allHung(-1) ? roof.miss() : NO;
    }

    int settle(int what) {
        if (what < 0 || what > 1) {
            return BAD;
        }
        if (!roof.allHung(-1)) {
            return NO;
        }
        Roof trial = roof.copy();
        for (int n = 0; n <= 60; n++) {
            Roof next = trial.copy();
            if (!next.round()) {
                return what == 0 ? n : trial.miss();
            }
            trial = next;
        }
        return NONE;
    }

    int better(int what) {
        if (what < 0 || what > 1) {
            return BAD;
        }
        if (!roof.allHung(-1)) {
            return NO;
        }
        int least = roof.miss();
        int best = NONE;
        for (int s = 0; s < roof.strands.size(); s++) {
            for (int q = 1; q <= 5; q++) {
                Roof trial = roof.copy();
                if (trial.strands.get(s).down || trial.strands.get(s).q == q) {
                    continue;
                }
                trial.strands.get(s).q = q;
                if (trial.miss() < least) {
                    least = trial.miss();
                    best = 10 * s + q;
                }
            }
        }
        return best == NONE ? NONE : what == 0 ? best : least;
    }

    int greatest(int what) {
        if (what < 0 || what > 1) {
            return BAD;
        }
        if (!roof.allHung(-1)) {
            return NO;
        }
        int[] lengths = roof.lengths();
        int best = NONE;
        int most = -1;
        for (int s = 0; s < lengths.length; s++) {
            Strand t = roof.strands.get(s);
            int size = what == 0 ? lengths[s] : lengths[s] * t.q;
            if (!t.down && size > most) {
                most = size;
                best = s;
            }
        }
        return best;
    }

    /** Strands that hang, the longest first. */
    private List<Integer> order(int[] lengths) {
        List<Integer> order = new ArrayList<>();
        for (int s = 0; s < lengths.length; s++) {
            if (!roof.strands.get(s).down) {
                order.add(s);
            }
        }
        order.sort((a, b) -> lengths[a] != lengths[b] ? lengths[b] - lengths[a] : a - b);
        return order;
    }

    private List<List<Integer>> firstFit(int[] lengths) {
        List<List<Integer>> rolls = new ArrayList<>();
        for (int s : order(lengths)) {
            if (lengths[s] + roof.e > 100 * roof.r) {
                return null;
            }
            List<Integer> found = null;
            for (List<Integer> roll : rolls) {
                if (found == null && left(roll, lengths) >= lengths[s] + roof.e) {
                    found = roll;
                }
            }
            if (found == null) {
                found = new ArrayList<>();
                rolls.add(found);
            }
            found.add(s);
        }
        return rolls;
    }

    private int left(List<Integer> roll, int[] lengths) {
        return 100 * roof.r - roll.stream().mapToInt(s -> lengths[s] + roof.e).sum();
    }

    private int fewest(List<Integer> order, int[] lengths, int k, List<Integer> lefts, int best) {
        if (lefts.size() >= best) {
            return best;
        }
        if (k == order.size()) {
            return lefts.size();
        }
        int size = lengths[order.get(k)] + roof.e;
        int least = best;
        for (int r = 0; r < lefts.size(); r++) {
            if (lefts.get(r) >= size && lefts.indexOf(lefts.get(r)) == r) {
                lefts.set(r, lefts.get(r) - size);
                least = fewest(order, lengths, k + 1, lefts, least);
                lefts.set(r, lefts.get(r) + size);
            }
        }
        lefts.add(100 * roof.r - size);
        least = fewest(order, lengths, k + 1, lefts, least);
        lefts.remove(lefts.size() - 1);
        return least;
    }

    int rolls(int what) {
        if (what < 0 || what > 2) {
            return BAD;
        }
        if (!roof.allHung(-1)) {
            return NO;
        }
        int[] lengths = roof.lengths();
        List<List<Integer>> rolls = firstFit(lengths);
        if (rolls == null) {
            return NONE;
        }
        if (what == 0) {
            return rolls.size();
        }
        if (what == 1) {
            return fewest(order(lengths), lengths, 0, new ArrayList<>(), rolls.size());
        }
        return rolls.stream().mapToInt(roll -> left(roll, lengths)).sum();
    }

    int rollOf(int s) {
        if (noStrand(s)) {
            return BAD;
        }
        if (!roof.allHung(-1)) {
            return NO;
        }
        List<List<Integer>> rolls = firstFit(roof.lengths());
        if (rolls == null) {
            return NONE;
        }
        for (int r = 0; r < rolls.size(); r++) {
            if (rolls.get(r).contains(s)) {
                return r;
            }
        }
        return NONE;
    }

    int count(int what) {
        switch (what) {
            case 0:
                return roof.joints.size();
            case 1:
                return (int) roof.joints.stream().filter(j -> j.free).count();
            case 2:
                return roof.strands.size();
            case 3:
                return (int) roof.strands.stream().filter(s -> !s.down).count();
            case 4:
                int hung = 0;
                for (int j = 0; j < roof.joints.size(); j++) {
                    hung += roof.joints.get(j).free && roof.hung(j, -1) ? 1 : 0;
                }
                return hung;
            case 5:
                return past.size();
            case 6:
                return text.length();
            case 7:
                return roof.r;
            case 8:
                return roof.e;
            default:
                return BAD;
        }
    }
}
