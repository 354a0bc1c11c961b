/** A roof of cables, as ../shared/DOC.md promises it. */
public final class RoofNet {
    public static final int BAD = -1, NO = -2, FULL = -3, NONE = -4;

    private static final int AXES = 3;
    private static final int Z = 2;
    private static final int MOST_LETTERS = 200;
    private static final int MOST_JOINTS = 10;
    private static final int MOST_FREE = 5;
    private static final int MOST_STRANDS = 14;
    private static final int MOST_STRANDS_OF_FREE = 4;
    private static final int MOST_NUMBERS = 4;
    private static final int FARTHEST = 60;
    private static final int MOST_LOAD = 9;
    private static final int MOST_DENSITY = 5;
    private static final int MOST_WANTED = 99;
    private static final int MOST_ROLL = 99;
    private static final int MOST_LOST = 50;
    private static final int ROLL_UNTOLD = 40;
    private static final int LOST_UNTOLD = 10;
    private static final int MOST_ROUNDS_DONE = 20;
    private static final int MOST_ROUNDS_TO_REST = 60;
    private static final int MOST_KEPT = 6;
    private static final int TOLD_MORE = 1000000;
    private static final int EXACT_BAD = -2000000000;
    private static final int EXACT_NO = -2000000001;
    private static final String FIRST_TEXT =
        "f0,0,10;f40,0,30;f0,40,20;f40,40,5;u9;u4;s0,4,1,30;s1,4,2,0;s4,5,3,18;s2,5,1,25;s3,5,2,30;r60,5;";

    private final Letters text = new Letters();
    private final TextReader reader = new TextReader();
    private final Past past = new Past();
    private final Shape shape = new Shape();
    private final Trials trials = new Trials();
    private final Cutter cutter = new Cutter();
    private Net net = new Net();
    private Net draft = new Net();

    public RoofNet() {
        for (int i = 0; i < FIRST_TEXT.length(); i++) {
            text.append(FIRST_TEXT.charAt(i));
        }
        reader.readInto(net, text);
        text.size = 0;
    }

    // ---- told

    public int write(int letter) {
        if (!isWithin(letter, 32, 126)) {
            return BAD;
        }
        return text.append((char) letter) ? text.size : FULL;
    }

    public int wipe() {
        int was = text.size;
        text.size = 0;
        return was;
    }

    public int fault() {
        return reader.readInto(draft, text);
    }

    public int lay() {
        if (reader.readInto(draft, text) != NONE || draft.joints == 0) {
            return NO;
        }
        Net laid = draft;
        draft = net;
        net = laid;
        past.kept = 0;
        return net.joints;
    }

    // ---- told anew

    public int density(int s, int q) {
        if (!net.hasStrand(s) || !isWithin(q, 1, MOST_DENSITY)) {
            return BAD;
        }
        int was = net.densities[s];
        if (was == q) {
            return NO;
        }
        past.keep(net);
        net.densities[s] = q;
        return was;
    }

    public int want(int s, int w) {
        if (!net.hasStrand(s) || !isWithin(w, 0, MOST_WANTED)) {
            return BAD;
        }
        int was = net.wanted[s];
        if (was == w) {
            return NO;
        }
        past.keep(net);
        net.wanted[s] = w;
        return was;
    }

    public int load(int j, int l) {
        if (!net.hasJoint(j) || !net.isFree(j) || !isWithin(l, -MOST_LOAD, MOST_LOAD)) {
            return BAD;
        }
        int was = net.loads[j];
        if (was == l) {
            return NO;
        }
        past.keep(net);
        net.loads[j] = l;
        return was + MOST_LOAD;
    }

    public int move(int j, int axis, int v) {
        if (!isFixedJoint(j) || !isAxis(axis) || !isWithin(v, 0, FARTHEST)) {
            return BAD;
        }
        int was = net.told[j * AXES + axis];
        if (was == v) {
            return NO;
        }
        past.keep(net);
        net.told[j * AXES + axis] = v;
        return was;
    }

    public int down(int s, int is) {
        if (!net.hasStrand(s) || !isWithin(is, 0, 1)) {
            return BAD;
        }
        if (net.hangs(s) == (is == 0)) {
            return NO;
        }
        past.keep(net);
        net.hanging ^= 1 << s;
        return Integer.bitCount(net.hanging);
    }

    public int round(int n) {
        if (!isWithin(n, 1, MOST_ROUNDS_DONE)) {
            return BAD;
        }
        if (!net.allHung()) {
            return NO;
        }
        past.keep(net);
        int changed = 0;
        for (int i = 0; i < n; i++) {
            if (shape.find(net) && net.tellDensitiesAnew(shape.lengths)) {
                changed++;
            }
        }
        return changed;
    }

    public int undo() {
        return past.giveBack(net) ? past.kept : NO;
    }

    // ---- joints

    public int joint(int j, int what) {
        if (!net.hasJoint(j) || !isWithin(what, 0, 7)) {
            return BAD;
        }
        boolean asksPlaces = isWithin(what, 1, AXES) || what == 7;
        if (asksPlaces && !shape.find(net)) {
            return NO;
        }
        switch (what) {
            case 0:
                return net.isFree(j) ? 1 : 0;
            case 4:
                return net.strandsAt(j) & net.hanging;
            case 5:
                return net.loads[j] + MOST_LOAD;
            case 6:
                return (net.hungJoints(net.hanging) >> j) & 1;
            case 7:
                return shape.isWithinOthers(net, j) ? 1 : 0;
            default:
                return shape.hundredths[j * AXES + what - 1] + TOLD_MORE;
        }
    }

    public int exact(int j, int axis, int part) {
        if (!net.hasJoint(j) || !isAxis(axis) || !isWithin(part, 0, 1)) {
            return EXACT_BAD;
        }
        if (!shape.find(net)) {
            return EXACT_NO;
        }
        long above = shape.above(net, j, axis);
        long below = shape.below;
        long shared = greatestShared(Math.abs(above), below);
        return (int) ((part == 0 ? above : below) / shared);
    }

    public int bears(int j, int axis) {
        if (!isFixedJoint(j) || !isAxis(axis)) {
            return BAD;
        }
        if (!shape.find(net)) {
            return NO;
        }
        return shape.borne(net, j, axis) + TOLD_MORE;
    }

    // ---- strands

    public int strand(int s, int what) {
        if (!net.hasStrand(s) || !isWithin(what, 0, 8)) {
            return BAD;
        }
        if (what >= 5) {
            return hangingStrand(s, what);
        }
        switch (what) {
            case 0:
                return net.firstEnds[s];
            case 1:
                return net.secondEnds[s];
            case 2:
                return net.densities[s];
            case 3:
                return net.wanted[s];
            default:
                return net.hangs(s) ? 0 : 1;
        }
    }

    private int hangingStrand(int s, int what) {
        if (!shape.find(net)) {
            return NO;
        }
        if (!net.hangs(s) || (what == 7 && net.wanted[s] == 0)) {
            return NONE;
        }
        switch (what) {
            case 5:
                return shape.lengths[s];
            case 6:
                return shape.pull(net, s);
            case 7:
                return shape.off(net, s);
            default:
                return net.isNeeded(s) ? 1 : 0;
        }
    }

    public int slack() {
        return shape.find(net) ? shape.slackStrands(net) : NO;
    }

    public int miss() {
        return shape.find(net) ? shape.missed(net) : NO;
    }

    public int settle(int what) {
        if (!isWithin(what, 0, 1)) {
            return BAD;
        }
        if (!net.allHung()) {
            return NO;
        }
        if (!trials.seekRest(net)) {
            return NONE;
        }
        return what == 0 ? trials.answer : trials.missed;
    }

    public int better(int what) {
        if (!isWithin(what, 0, 1)) {
            return BAD;
        }
        if (!net.allHung()) {
            return NO;
        }
        if (!trials.seekBetter(net)) {
            return NONE;
        }
        return what == 0 ? trials.answer : trials.missed;
    }

    public int greatest(int what) {
        if (!isWithin(what, 0, 1)) {
            return BAD;
        }
        if (!shape.find(net)) {
            return NO;
        }
        int found = NONE;
        int most = -1;
        for (int s = 0; s < net.strands; s++) {
            int size = what == 0 ? shape.lengths[s] : shape.pull(net, s);
            if (net.hangs(s) && size > most) {
                found = s;
                most = size;
            }
        }
        return found;
    }

    // ---- rolls

    public int rolls(int what) {
        if (!isWithin(what, 0, 2)) {
            return BAD;
        }
        if (!shape.find(net)) {
            return NO;
        }
        if (!cutter.firstFit(net, shape.lengths)) {
            return NONE;
        }
        switch (what) {
            case 0:
                return cutter.rollsUsed;
            case 1:
                return cutter.fewest();
            default:
                return cutter.leftOver();
        }
    }

    public int rollOf(int s) {
        if (!net.hasStrand(s)) {
            return BAD;
        }
        if (!shape.find(net)) {
            return NO;
        }
        if (!net.hangs(s) || !cutter.firstFit(net, shape.lengths)) {
            return NONE;
        }
        return cutter.rollOfStrand[s];
    }

    public int count(int what) {
        switch (what) {
            case 0:
                return net.joints;
            case 1:
                return Integer.bitCount(net.free);
            case 2:
                return net.strands;
            case 3:
                return Integer.bitCount(net.hanging);
            case 4:
                return Integer.bitCount(net.hungJoints(net.hanging) & net.free);
            case 5:
                return past.kept;
            case 6:
                return text.size;
            case 7:
                return net.rollLength;
            case 8:
                return net.lostPerPiece;
            default:
                return BAD;
        }
    }

    private boolean isFixedJoint(int j) {
        return net.hasJoint(j) && !net.isFree(j);
    }

    private static boolean isAxis(int axis) {
        return isWithin(axis, 0, AXES - 1);
    }

    private static boolean isWithin(int value, int least, int most) {
        return value >= least && value <= most;
    }

    /** At least 1, so that callers may divide by it. */
    private static long greatestShared(long one, long other) {
        long a = one;
        long b = other;
        // Euclid's way takes fewer than 100 steps for any two longs.
        for (int step = 0; step < 100 && b != 0; step++) {
            long rest = a % b;
            a = b;
            b = rest;
        }
        return Math.max(a, 1);
    }

    /** THE TEXT: letters, read past the end as the sign 0, which no ITEM has. */
    private static final class Letters {
        final char[] signs = new char[MOST_LETTERS];
        int size;

        boolean append(char sign) {
            if (size >= MOST_LETTERS) {
                return false;
            }
            signs[size] = sign;
            size++;
            return true;
        }

        char at(int place) {
            return place >= 0 && place < size ? signs[place] : (char) 0;
        }

        boolean isFigure(int place) {
            return at(place) >= '0' && at(place) <= '9';
        }
    }

    /** Takes a text ITEM by ITEM into a net. */
    private static final class TextReader {
        final int[] numbers = new int[MOST_NUMBERS];

        /** The place of the first ITEM that can't be taken, or NONE. */
        int readInto(Net net, Letters text) {
            net.clear();
            int start = 0;
            while (start < text.size) {
                int behind = takeItem(net, text, start);
                if (behind <= start) {
                    return start;
                }
                start = behind;
            }
            return NONE;
        }

        /** The place behind the ITEM, or NONE if it is not as it should be. */
        private int takeItem(Net net, Letters text, int start) {
            int kind = text.at(start);
            int behind = takeNumbers(text, start + 1, numbersOf(kind));
            return behind != NONE && addItem(net, kind) ? behind : NONE;
        }

        private int numbersOf(int kind) {
            switch (kind) {
                case 'f':
                    return 3;
                case 'u':
                    return 1;
                case 's':
                    return 4;
                case 'r':
                    return 2;
                default:
                    return 0;
            }
        }

        private int takeNumbers(Letters text, int start, int howMany) {
            int place = start;
            for (int k = 0; k < howMany; k++) {
                if (!text.isFigure(place)) {
                    return NONE;
                }
                int value = text.at(place) - '0';
                place++;
                if (text.isFigure(place)) {
                    value = value * 10 + text.at(place) - '0';
                    place++;
                }
                numbers[k] = value;
                if (text.at(place) != (k == howMany - 1 ? ';' : ',')) {
                    return NONE;
                }
                place++;
            }
            return howMany > 0 ? place : NONE;
        }

        private boolean addItem(Net net, int kind) {
            switch (kind) {
                case 'f':
                    return net.addFixed(numbers[0], numbers[1], numbers[2]);
                case 'u':
                    return net.addFree(numbers[0] - MOST_LOAD);
                case 's':
                    return net.addStrand(numbers[0], numbers[1], numbers[2], numbers[3]);
                case 'r':
                    return net.tellRolls(numbers[0], numbers[1]);
                default:
                    return false;
            }
        }
    }

    /** All that LAID and the changes behind it tell. */
    private static final class Net {
        int joints;
        int free;
        int strands;
        int hanging;
        int rollLength;
        int lostPerPiece;
        final int[] told = new int[MOST_JOINTS * AXES];
        final int[] loads = new int[MOST_JOINTS];
        final int[] firstEnds = new int[MOST_STRANDS];
        final int[] secondEnds = new int[MOST_STRANDS];
        final int[] densities = new int[MOST_STRANDS];
        final int[] wanted = new int[MOST_STRANDS];

        void clear() {
            joints = 0;
            free = 0;
            strands = 0;
            hanging = 0;
            rollLength = ROLL_UNTOLD;
            lostPerPiece = LOST_UNTOLD;
        }

        void copyFrom(Net other) {
            joints = other.joints;
            free = other.free;
            strands = other.strands;
            hanging = other.hanging;
            rollLength = other.rollLength;
            lostPerPiece = other.lostPerPiece;
            System.arraycopy(other.told, 0, told, 0, MOST_JOINTS * AXES);
            System.arraycopy(other.loads, 0, loads, 0, MOST_JOINTS);
            System.arraycopy(other.firstEnds, 0, firstEnds, 0, MOST_STRANDS);
            System.arraycopy(other.secondEnds, 0, secondEnds, 0, MOST_STRANDS);
            System.arraycopy(other.densities, 0, densities, 0, MOST_STRANDS);
            System.arraycopy(other.wanted, 0, wanted, 0, MOST_STRANDS);
        }

        boolean addFixed(int x, int y, int z) {
            if (joints >= MOST_JOINTS || x > FARTHEST || y > FARTHEST || z > FARTHEST) {
                return false;
            }
            told[joints * AXES] = x;
            told[joints * AXES + 1] = y;
            told[joints * AXES + 2] = z;
            loads[joints] = 0;
            joints++;
            return true;
        }

        boolean addFree(int weight) {
            if (joints >= MOST_JOINTS || Integer.bitCount(free) >= MOST_FREE || weight > MOST_LOAD) {
                return false;
            }
            free |= 1 << joints;
            loads[joints] = weight;
            joints++;
            return true;
        }

        boolean addStrand(int a, int b, int thick, int length) {
            boolean endsAreThere = hasJoint(a) && hasJoint(b) && a != b;
            if (strands >= MOST_STRANDS || !endsAreThere || !isWithin(thick, 1, MOST_DENSITY)) {
                return false;
            }
            boolean twice = (strandsAt(a) & strandsAt(b)) != 0;
            if (length > MOST_WANTED || twice || takesNoMore(a) || takesNoMore(b)) {
                return false;
            }
            firstEnds[strands] = a;
            secondEnds[strands] = b;
            densities[strands] = thick;
            wanted[strands] = length;
            hanging |= 1 << strands;
            strands++;
            return true;
        }

        boolean tellRolls(int length, int lost) {
            if (!isWithin(length, 1, MOST_ROLL) || lost > MOST_LOST) {
                return false;
            }
            rollLength = length;
            lostPerPiece = lost;
            return true;
        }

        private boolean takesNoMore(int j) {
            return isFree(j) && Integer.bitCount(strandsAt(j)) >= MOST_STRANDS_OF_FREE;
        }

        boolean hasJoint(int j) {
            return isWithin(j, 0, joints - 1);
        }

        boolean hasStrand(int s) {
            return isWithin(s, 0, strands - 1);
        }

        boolean isFree(int j) {
            return ((free >> j) & 1) == 1;
        }

        boolean hangs(int s) {
            return ((hanging >> s) & 1) == 1;
        }

        /** As bits, those that are DOWN too. */
        int strandsAt(int j) {
            int found = 0;
            for (int s = 0; s < strands; s++) {
                if (firstEnds[s] == j || secondEnds[s] == j) {
                    found |= 1 << s;
                }
            }
            return found;
        }

        int otherEnd(int s, int j) {
            return firstEnds[s] == j ? secondEnds[s] : firstEnds[s];
        }

        /** As bits, FIXED ones too, if just the given strands hang. */
        int hungJoints(int given) {
            int hung = ((1 << joints) - 1) & ~free;
            // Each pass but the last hangs one more joint, so joints passes are enough.
            for (int pass = 0; pass < joints; pass++) {
                int before = hung;
                for (int s = 0; s < strands; s++) {
                    int ends = (1 << firstEnds[s]) | (1 << secondEnds[s]);
                    if (((given >> s) & 1) == 1 && (hung & ends) != 0) {
                        hung |= ends;
                    }
                }
                if (hung == before) {
                    break;
                }
            }
            return hung;
        }

        boolean allHung() {
            return (free & ~hungJoints(hanging)) == 0;
        }

        boolean isNeeded(int s) {
            return (free & ~hungJoints(hanging & ~(1 << s))) != 0;
        }

        /** One ROUND by the lengths ahead of it: whether a DENSITY changed. */
        boolean tellDensitiesAnew(int[] lengths) {
            boolean changed = false;
            for (int s = 0; s < strands; s++) {
                if (!hangs(s) || wanted[s] == 0) {
                    continue;
                }
                int step = Integer.compare(lengths[s], 100 * wanted[s]);
                int anew = Math.min(MOST_DENSITY, Math.max(1, densities[s] + step));
                changed = changed || anew != densities[s];
                densities[s] = anew;
            }
            return changed;
        }
    }

    /** The latest changes, each as the net that was ahead of it, in a ring. */
    private static final class Past {
        final Net[] nets = new Net[MOST_KEPT];
        int next;
        int kept;

        Past() {
            for (int i = 0; i < MOST_KEPT; i++) {
                nets[i] = new Net();
            }
        }

        void keep(Net net) {
            nets[next].copyFrom(net);
            next = (next + 1) % MOST_KEPT;
            kept = Math.min(kept + 1, MOST_KEPT);
        }

        boolean giveBack(Net net) {
            if (kept == 0) {
                return false;
            }
            next = (next + MOST_KEPT - 1) % MOST_KEPT;
            kept--;
            net.copyFrom(nets[next]);
            return true;
        }
    }

    /** PLACES and what follows from them, of the net that was given to find. */
    private static final class Shape {
        final int[] rowOfJoint = new int[MOST_JOINTS];
        final long[][] rows = new long[MOST_FREE][MOST_FREE + AXES];
        final int[] hundredths = new int[MOST_JOINTS * AXES];
        final int[] lengths = new int[MOST_STRANDS];
        int unknowns;
        /** All FREE JOINTS' places are told over this one divisor. */
        long below = 1;

        /** False if some FREE JOINT is not HUNG: then there are no PLACES. */
        boolean find(Net net) {
            if (!net.allHung()) {
                return false;
            }
            numberFreeJoints(net);
            setUpRows(net);
            if (!eliminate()) {
                return false;
            }
            tellHundredths(net);
            tellLengths(net);
            return true;
        }

        private void numberFreeJoints(Net net) {
            unknowns = 0;
            for (int j = 0; j < net.joints; j++) {
                if (net.isFree(j) && unknowns < MOST_FREE) {
                    rowOfJoint[j] = unknowns;
                    unknowns++;
                }
            }
        }

        private void setUpRows(Net net) {
            for (int i = 0; i < unknowns; i++) {
                for (int k = 0; k < unknowns + AXES; k++) {
                    rows[i][k] = 0;
                }
            }
            for (int j = 0; j < net.joints; j++) {
                if (net.isFree(j)) {
                    rows[rowOfJoint[j]][unknowns + Z] = net.loads[j];
                }
            }
            for (int s = 0; s < net.strands; s++) {
                if (net.hangs(s)) {
                    addPullOn(net, s, net.firstEnds[s]);
                    addPullOn(net, s, net.secondEnds[s]);
                }
            }
        }

        private void addPullOn(Net net, int s, int j) {
            if (!net.isFree(j)) {
                return;
            }
            long[] row = rows[rowOfJoint[j]];
            int other = net.otherEnd(s, j);
            int thick = net.densities[s];
            row[rowOfJoint[j]] += thick;
            if (net.isFree(other)) {
                row[rowOfJoint[other]] -= thick;
                return;
            }
            for (int axis = 0; axis < AXES; axis++) {
                row[unknowns + axis] += thick * net.told[other * AXES + axis];
            }
        }

        /**
         * Bareiss: every entry stays a minor of the rows set up, so each division comes out even and
         * nothing grows past a long. All being HUNG, the pivots are above 0 without changing rows.
         */
        private boolean eliminate() {
            below = 1;
            for (int k = 0; k < unknowns; k++) {
                long pivot = rows[k][k];
                if (pivot <= 0 || below <= 0) {
                    return false;
                }
                for (int i = 0; i < unknowns; i++) {
                    if (i != k) {
                        clearColumn(i, k, pivot);
                    }
                }
                below = pivot;
            }
            return true;
        }

        private void clearColumn(int i, int k, long pivot) {
            long factor = rows[i][k];
            if (below <= 0) {
                return;
            }
            for (int c = 0; c < unknowns + AXES; c++) {
                rows[i][c] = (pivot * rows[i][c] - factor * rows[k][c]) / below;
            }
        }

        /** Where a JOINT is, times the divisor. */
        long above(Net net, int j, int axis) {
            if (net.isFree(j)) {
                return rows[rowOfJoint[j]][unknowns + axis];
            }
            return net.told[j * AXES + axis] * below;
        }

        private void tellHundredths(Net net) {
            if (below <= 0) {
                return;
            }
            for (int j = 0; j < net.joints; j++) {
                for (int axis = 0; axis < AXES; axis++) {
                    hundredths[j * AXES + axis] = (int) Math.floorDiv(100 * above(net, j, axis), below);
                }
            }
        }

        private void tellLengths(Net net) {
            for (int s = 0; s < net.strands; s++) {
                long squares = 0;
                for (int axis = 0; axis < AXES; axis++) {
                    long way = wayFrom(net.firstEnds[s], net.secondEnds[s], axis);
                    squares += way * way;
                }
                lengths[s] = wholeRoot(squares);
            }
        }

        private int wayFrom(int from, int to, int axis) {
            return hundredths[to * AXES + axis] - hundredths[from * AXES + axis];
        }

        private static int wholeRoot(long square) {
            int root = 0;
            // No strand can be 2 to the 17th hundredths long, so 17 bits are enough.
            for (int bit = 16; bit >= 0; bit--) {
                long tried = root | (1 << bit);
                if (tried * tried <= square) {
                    root = (int) tried;
                }
            }
            return root;
        }

        boolean isWithinOthers(Net net, int j) {
            if (!net.isFree(j)) {
                return true;
            }
            for (int axis = 0; axis < AXES; axis++) {
                if (!isBetweenOthers(net, j, axis)) {
                    return false;
                }
            }
            return true;
        }

        private boolean isBetweenOthers(Net net, int j, int axis) {
            long own = above(net, j, axis);
            int around = net.strandsAt(j) & net.hanging;
            boolean someBelow = false;
            boolean someAbove = false;
            for (int s = 0; s < net.strands; s++) {
                if (((around >> s) & 1) == 1) {
                    long other = above(net, net.otherEnd(s, j), axis);
                    someBelow = someBelow || other <= own;
                    someAbove = someAbove || other >= own;
                }
            }
            return someBelow && someAbove;
        }

        int borne(Net net, int j, int axis) {
            int around = net.strandsAt(j) & net.hanging;
            int sum = 0;
            for (int s = 0; s < net.strands; s++) {
                if (((around >> s) & 1) == 1) {
                    sum += net.densities[s] * wayFrom(j, net.otherEnd(s, j), axis);
                }
            }
            return sum;
        }

        int pull(Net net, int s) {
            return net.densities[s] * lengths[s];
        }

        int off(Net net, int s) {
            return Math.abs(lengths[s] - 100 * net.wanted[s]);
        }

        int slackStrands(Net net) {
            int found = 0;
            for (int s = 0; s < net.strands; s++) {
                if (net.hangs(s) && lengths[s] < 100 * net.wanted[s]) {
                    found |= 1 << s;
                }
            }
            return found;
        }

        int missed(Net net) {
            int sum = 0;
            for (int s = 0; s < net.strands; s++) {
                if (net.hangs(s) && net.wanted[s] > 0) {
                    sum += off(net, s);
                }
            }
            return sum;
        }
    }

    /** Tries densities on a net of its own, so that the true one stays. */
    private static final class Trials {
        final Net net = new Net();
        final Shape shape = new Shape();
        int answer;
        int missed;

        /** Whether ROUNDS SETTLE: the answer is behind how many. */
        boolean seekRest(Net start) {
            net.copyFrom(start);
            for (int n = 0; n <= MOST_ROUNDS_TO_REST; n++) {
                if (!shape.find(net)) {
                    return false;
                }
                missed = shape.missed(net);
                if (!net.tellDensitiesAnew(shape.lengths)) {
                    answer = n;
                    return true;
                }
            }
            return false;
        }

        /** Whether a single change is BETTER: the answer is 10 times the STRAND and the DENSITY. */
        boolean seekBetter(Net start) {
            net.copyFrom(start);
            if (!shape.find(net)) {
                return false;
            }
            answer = NONE;
            missed = shape.missed(net);
            for (int s = 0; s < net.strands; s++) {
                if (net.hangs(s)) {
                    tryDensitiesOf(s);
                }
            }
            return answer != NONE;
        }

        private void tryDensitiesOf(int s) {
            int own = net.densities[s];
            for (int thick = 1; thick <= MOST_DENSITY; thick++) {
                net.densities[s] = thick;
                if (thick != own && shape.find(net) && shape.missed(net) < missed) {
                    missed = shape.missed(net);
                    answer = 10 * s + thick;
                }
            }
            net.densities[s] = own;
        }
    }

    /** Cuts all STRANDS that hang from ROLLS. */
    private static final class Cutter {
        final int[] strandsByLength = new int[MOST_STRANDS];
        final int[] pieceSizes = new int[MOST_STRANDS];
        final int[] leftOnRoll = new int[MOST_STRANDS];
        final int[] rollOfStrand = new int[MOST_STRANDS];
        int pieces;
        int rollSize;
        int rollsUsed;
        final int[] leftOnTried = new int[MOST_STRANDS];
        int rollsTried;
        int mayBeLost;

        /** False if there is no way. */
        boolean firstFit(Net net, int[] lengths) {
            rollSize = 100 * net.rollLength;
            rollsUsed = 0;
            sortPieces(net, lengths);
            for (int k = 0; k < pieces; k++) {
                int s = strandsByLength[k];
                int size = lengths[s] + net.lostPerPiece;
                if (size > rollSize) {
                    return false;
                }
                pieceSizes[k] = size;
                rollOfStrand[s] = rollWith(size);
                leftOnRoll[rollOfStrand[s]] -= size;
            }
            return true;
        }

        private void sortPieces(Net net, int[] lengths) {
            pieces = 0;
            for (int s = 0; s < net.strands; s++) {
                if (!net.hangs(s)) {
                    continue;
                }
                int k = pieces;
                while (k > 0 && lengths[strandsByLength[k - 1]] < lengths[s]) {
                    strandsByLength[k] = strandsByLength[k - 1];
                    k--;
                }
                strandsByLength[k] = s;
                pieces++;
            }
        }

        /** The first roll with so much left; a new one, if none has. */
        private int rollWith(int size) {
            for (int r = 0; r < rollsUsed; r++) {
                if (leftOnRoll[r] >= size) {
                    return r;
                }
            }
            // There are no more rolls than pieces, so the new roll has a place in the row.
            int opened = Math.min(rollsUsed, MOST_STRANDS - 1);
            leftOnRoll[opened] = rollSize;
            rollsUsed = opened + 1;
            return opened;
        }

        int leftOver() {
            int sum = 0;
            for (int r = 0; r < rollsUsed; r++) {
                sum += leftOnRoll[r];
            }
            return sum;
        }

        /** Behind a FIRST FIT that found a way. */
        int fewest() {
            int cut = rollsUsed * rollSize - leftOver();
            for (int tried = leastThinkable(cut); tried < rollsUsed; tried++) {
                for (int r = 0; r < tried; r++) {
                    leftOnTried[r] = rollSize;
                }
                rollsTried = tried;
                mayBeLost = tried * rollSize - cut;
                if (canPlaceFrom(this, 0)) {
                    return tried;
                }
            }
            return rollsUsed;
        }

        /** A number of rolls, none if there are no pieces, below which there is surely no way. */
        private int leastThinkable(int cut) {
            int least = pieces == 0 ? 0 : 1;
            if (rollSize <= 0) {
                return least;
            }
            least = Math.max(least, (cut + rollSize - 1) / rollSize);
            for (int k = 0; k < pieces && pieceSizes[k] > 0; k++) {
                // The pieces up to this one are as long as it at least: so many of them go on a roll at most.
                int onRoll = Math.max(1, rollSize / pieceSizes[k]);
                least = Math.max(least, (k + onRoll) / onRoll);
            }
            return least;
        }

        /** Whether the pieces from k on can be cut from what is left on the rolls tried. */
        private static boolean canPlaceFrom(Cutter cutter, int k) {
            if (k >= cutter.pieces || k >= MOST_STRANDS) {
                return true;
            }
            if (cutter.tooMuchIsLost()) {
                return false;
            }
            int size = cutter.pieceSizes[k];
            int[] left = cutter.leftOnTried;
            for (int r = 0; r < cutter.rollsTried; r++) {
                if (left[r] < size || cutter.isLikeOneAhead(r)) {
                    continue;
                }
                left[r] -= size;
                boolean placed = canPlaceFrom(cutter, k + 1);
                left[r] += size;
                // Where a piece uses up a roll, no other place for it can do better.
                if (placed || left[r] == size) {
                    return placed;
                }
            }
            return false;
        }

        /** What is left on a roll is lost, if it is too short for the shortest piece. */
        private boolean tooMuchIsLost() {
            int shortest = pieces > 0 ? pieceSizes[pieces - 1] : 0;
            int lost = 0;
            for (int r = 0; r < rollsTried; r++) {
                if (leftOnTried[r] < shortest) {
                    lost += leftOnTried[r];
                }
            }
            return lost > mayBeLost;
        }

        /** A roll with as much left as one ahead of it needs no second try. */
        private boolean isLikeOneAhead(int r) {
            for (int ahead = 0; ahead < r; ahead++) {
                if (leftOnTried[ahead] == leftOnTried[r]) {
                    return true;
                }
            }
            return false;
        }
    }
}
