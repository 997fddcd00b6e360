import java.util.Arrays;

/**
 * Ladders of an atom: LEVELS, LINES of light between them, and what can be told of both.
 * Every row that a call needs is made with the object and used again, so that calls make nothing.
 */
public final class AtomLadders {
    public static final int BAD = -1, STATE = -2, FULL = -3, NONE = -4;

    private static final int MOST_LEVELS = 8;
    private static final int MOST_LINES = 16;
    private static final int MOST_HEIGHT = 1000000;
    private static final int MOST_PLACE = 1000000;
    private static final int MOST_END = 1000;
    private static final int MOST_STRENGTH = 999;
    private static final int MOST_SPIN = 9;
    private static final int MOST_FACTOR = 100;
    private static final int PLATES = 4;
    private static final int MOST_MEETINGS = 12;
    private static final int MOST_VERSIONS = 4;
    private static final int MOST_ACTS = 6;
    private static final int MOST_SEARCHED = 12;

    private static final int SHEETS = 4;
    private static final int LANES = 3;
    private static final int MOST_CELLS = 60;
    private static final int FAULT_NULL = 1;
    private static final int FAULT_INDEX = 2;
    private static final int FAULT_CAST = 3;
    private static final int FAULT_SIZE = 4;
    private static final int MOST_SCANNED = 16;
    private static final int MOST_MATCHED = 20;

    private static final int MOST_BYTES = 80;
    private static final int MOST_SHELLS = 4;
    private static final int MOST_FILLED = 12;
    private static final int MOST_M = 40;
    private static final int MOST_TOLD_SPIN = 99;

    private static final int APART_BAD = -10000000;
    private static final int APART_STATE = -10000002;
    private static final int APART_NONE = -10000004;
    private static final long FRACTION_BAD = -1000000000000L;
    private static final long FRACTION_STATE = -1000000000002L;
    private static final int FACTOR_BAD = -1000;
    private static final int COMPONENT_BAD = -1000000;
    private static final int COMPONENT_STATE = -1000002;

    private final Levels levels = new Levels();
    private final Lines lines = new Lines();
    private final Net net = new Net();
    private final Squares squares = new Squares();
    private final Seeker seeker = new Seeker();
    private final ShellText shellText = new ShellText();
    private final Fillings filled = new Fillings();
    private final FieldPattern fieldPattern = new FieldPattern();
    private final int[] meetingFirst = new int[MOST_MEETINGS];
    private final int[] meetingSecond = new int[MOST_MEETINGS];
    private int meetingCount;
    private final Snapshot[] versions = new Snapshot[MOST_VERSIONS];
    private int versionCount;
    private final Acts acts = new Acts();
    private final Sheet[] sheets = new Sheet[SHEETS];

    public AtomLadders() {
        for (int v = 0; v < MOST_VERSIONS; v++) {
            versions[v] = new Snapshot();
        }
        for (int k = 0; k < SHEETS; k++) {
            sheets[k] = new Sheet();
        }
    }

    // ---- levels and lines

    public int level(int height, int side, int spin) {
        if (!isHeight(height) || !isSideAndSpin(side, spin)) {
            return BAD;
        }
        if (levels.size >= MOST_LEVELS) {
            return FULL;
        }
        return levels.append(height, side, spin);
    }

    public int height(int k, int v) {
        if (!levels.has(k) || !isHeight(v)) {
            return BAD;
        }
        acts.remember(levels, lines);
        int old = levels.heights[k];
        levels.heights[k] = v;
        return old;
    }

    public int told(int k, int what) {
        if (!levels.has(k)) {
            return BAD;
        }
        switch (what) {
            case 0:
                return levels.heights[k];
            case 1:
                return levels.sides[k];
            case 2:
                return levels.spinOf[k];
            case 3:
                tieHeights();
                return squares.least[k];
            case 4:
                return lines.givenAt(k);
            default:
                return BAD;
        }
    }

    public int line(int place, int end, int strength) {
        int refused = lines.refusal(place, end, strength, 0);
        return refused != 0 ? refused : lines.append(place, end, strength);
    }

    public int drop() {
        if (lines.size == 0) {
            return NONE;
        }
        int latest = lines.size - 1;
        if (isInMeeting(latest)) {
            return STATE;
        }
        lines.size = latest;
        acts.forget();
        return latest;
    }

    public int about(int n, int what) {
        if (!lines.has(n)) {
            return BAD;
        }
        switch (what) {
            case 0:
                return lines.places[n];
            case 1:
                return lines.ends[n];
            case 2:
                return lines.strengths[n];
            case 3:
                return lines.uppers[n];
            case 4:
                return lines.lowers[n];
            case 5:
                return lines.plates[n];
            default:
                return BAD;
        }
    }

    public int allowed(int u, int l) {
        if (!levels.has(u) || !levels.has(l)) {
            return BAD;
        }
        return levels.isStep(u, l) ? 1 : 0;
    }

    public int fits(int n) {
        return lines.has(n) ? countFits(n) : BAD;
    }

    public int fit(int n, int i) {
        if (!lines.has(n) || i < 0) {
            return BAD;
        }
        return stepThatFits(n, i);
    }

    public int give(int n, int u, int l) {
        if (!lines.has(n) || !levels.has(u) || !levels.has(l)) {
            return BAD;
        }
        if (!levels.isStep(u, l)) {
            return STATE;
        }
        acts.remember(levels, lines);
        lines.bind(n, u, l);
        return 1;
    }

    public int take(int n) {
        if (!lines.has(n)) {
            return BAD;
        }
        if (!lines.isGiven(n)) {
            return STATE;
        }
        acts.remember(levels, lines);
        lines.bind(n, NONE, NONE);
        return 1;
    }

    public int giveAll() {
        acts.remember(levels, lines);
        int given = 0;
        for (int n = 0; n < lines.size; n++) {
            if (!lines.isGiven(n) && countFits(n) == 1) {
                int step = stepThatFits(n, 0);
                lines.bind(n, step / MOST_LEVELS, step % MOST_LEVELS);
                given++;
            }
        }
        return given;
    }

    // ---- the net

    public int closes() {
        return net.canClose(lines) ? 1 : 0;
    }

    public int barred() {
        return lines.givenCount() > MOST_SEARCHED ? STATE : net.fewestOut(lines);
    }

    public int apart(int u, int l, boolean high) {
        if (!levels.has(u) || !levels.has(l) || u == l) {
            return APART_BAD;
        }
        if (!net.canClose(lines)) {
            return APART_STATE;
        }
        tieHeights();
        if (squares.least[u] != squares.least[l]) {
            return APART_NONE;
        }
        return high ? net.mostAbove(u, l) : -net.mostAbove(l, u);
    }

    public long best(int k, int what) {
        if (!levels.has(k) || what < 0 || what > 1) {
            return FRACTION_BAD;
        }
        solveHeights();
        return squares.inLowestTerms(squares.numerator(k), what);
    }

    public long rest(int n, int what) {
        if (!lines.has(n) || what < 0 || what > 1) {
            return FRACTION_BAD;
        }
        if (!lines.isGiven(n)) {
            return FRACTION_STATE;
        }
        solveHeights();
        long above = squares.numerator(lines.uppers[n]) - squares.numerator(lines.lowers[n]);
        return squares.inLowestTerms(lines.places[n] * squares.denominator - above, what);
    }

    public int settle() {
        acts.remember(levels, lines);
        solveHeights();
        int changed = 0;
        for (int k = 0; k < levels.size; k++) {
            // The least LEVEL of a PART is the first of it and its BEST is 0: it stays as it is.
            int base = levels.heights[squares.least[k]];
            int settled = squares.roundedSum(base, k, 0, MOST_HEIGHT);
            if (settled != levels.heights[k]) {
                levels.heights[k] = settled;
                changed++;
            }
        }
        return changed;
    }

    // ---- seeking

    public int seek(int side, int spin, int what) {
        if (!isSideAndSpin(side, spin) || what < 0 || what > 2) {
            return BAD;
        }
        seeker.findPartners(levels, side, spin);
        seeker.seekHeight(lines);
        if (what == 0 || seeker.sought == NONE) {
            return seeker.sought;
        }
        return what == 1 ? seeker.soughtScore : seeker.chance(lines);
    }

    public int score(int side, int spin, int height) {
        if (!isSideAndSpin(side, spin) || !isHeight(height)) {
            return BAD;
        }
        seeker.findPartners(levels, side, spin);
        return seeker.scoreAt(lines, height);
    }

    public int foretold() {
        seeker.foresee(levels, lines);
        return seeker.stepCount;
    }

    public int foretoldAt(int i, int what) {
        if (i < 0 || what < 0 || what > 3) {
            return BAD;
        }
        seeker.foresee(levels, lines);
        if (i >= seeker.stepCount) {
            return NONE;
        }
        switch (what) {
            case 0:
                return seeker.gaps[i];
            case 1:
                return seeker.uppers[i];
            case 2:
                return seeker.lowers[i];
            default:
                return lines.nearCount(seeker.gaps[i]);
        }
    }

    // ---- shells

    public int feed(long v) {
        if (shellText.length + 8 > MOST_BYTES) {
            return FULL;
        }
        shellText.append(v);
        return shellText.length;
    }

    public int end(int n) {
        if (n < 0 || n > shellText.length) {
            return BAD;
        }
        int old = shellText.length;
        shellText.length = n;
        return old;
    }

    public int shells() {
        boolean good = shellText.readAll();
        shellText.length = 0;
        if (!good) {
            return -10 - shellText.faultPlace;
        }
        filled.begin();
        for (int i = 0; i < shellText.size; i++) {
            filled.fillShell(shellText.letters[i], shellText.amounts[i]);
        }
        filled.finish(shellText.size);
        return filled.side;
    }

    public int fault() {
        return shellText.faultKind;
    }

    public long fillings(int m, int h) {
        if (m < -MOST_M || m > MOST_M || h < -MOST_FILLED || h > MOST_FILLED) {
            return BAD;
        }
        return filled.shellCount == 0 ? STATE : filled.waysOf(m, h);
    }

    public long terms(int l, int k) {
        if (l < 0 || l > MOST_M || k < 0 || k > MOST_FILLED) {
            return BAD;
        }
        return filled.shellCount == 0 ? STATE : filled.termCount(l, k);
    }

    public long spins(int spin) {
        if (spin < 0 || spin > MOST_TOLD_SPIN) {
            return BAD;
        }
        return filled.shellCount == 0 ? STATE : filled.levelsOfSpin(spin);
    }

    public long term(int i, int what) {
        if (i < 0 || what < 0 || what > 2) {
            return BAD;
        }
        if (filled.shellCount == 0) {
            return STATE;
        }
        return filled.termAt(i, what);
    }

    public long missing(int what) {
        if (what < 0 || what > 1) {
            return BAD;
        }
        if (filled.shellCount == 0) {
            return STATE;
        }
        long sum = 0;
        for (int spin = 0; spin <= MOST_SPIN; spin++) {
            long more = levels.countOf(filled.side, spin) - filled.levelsOfSpin(spin);
            sum += Math.max(0L, what == 0 ? more : -more);
        }
        return sum;
    }

    // ---- fields

    public int factor(int k, int v) {
        if (!levels.has(k) || v < -MOST_FACTOR || v > MOST_FACTOR) {
            return FACTOR_BAD;
        }
        int old = levels.factors[k];
        levels.factors[k] = v;
        return old;
    }

    public int pattern(int u, int l, int what) {
        if (!levels.has(u) || !levels.has(l) || what < 0 || what > 3) {
            return BAD;
        }
        if (!levels.isStep(u, l)) {
            return STATE;
        }
        fieldPattern.build(levels, u, l);
        switch (what) {
            case 0:
                return fieldPattern.size;
            case 1:
                return fieldPattern.straightCount();
            case 2:
                return fieldPattern.strengthOf(1);
            default:
                return fieldPattern.strengthOf(0);
        }
    }

    public int component(int u, int l, int i, int what) {
        if (!levels.has(u) || !levels.has(l) || i < 0 || what < 0 || what > 2) {
            return COMPONENT_BAD;
        }
        if (!levels.isStep(u, l)) {
            return COMPONENT_STATE;
        }
        fieldPattern.build(levels, u, l);
        if (i >= fieldPattern.size) {
            return COMPONENT_BAD;
        }
        switch (what) {
            case 0:
                return fieldPattern.shifts[i];
            case 1:
                return fieldPattern.straight[i];
            default:
                return fieldPattern.strengths[i];
        }
    }

    public int match(int k, int lane, int f, int n, int e) {
        if (!isSheet(k) || !isLane(lane) || n < 1 || n > MOST_MATCHED || e < 0 || e > MOST_END) {
            return BAD;
        }
        int found = sheets[k].faultAs(lane);
        if (found == 0 && !sheets[k].hasCells(f, n)) {
            found = FAULT_INDEX;
        }
        if (found != 0) {
            return -10 - found;
        }
        int steps = 0;
        for (int u = 0; u < levels.size; u++) {
            for (int l = 0; l < levels.size; l++) {
                if (levels.isStep(u, l)) {
                    fieldPattern.build(levels, u, l);
                    steps += fieldPattern.isLike(sheets[k], f, n, e) ? 1 : 0;
                }
            }
        }
        return steps;
    }

    // ---- plates

    public int plate(int n, int v) {
        if (!lines.has(n) || !isPlate(v)) {
            return BAD;
        }
        if (isInMeeting(n)) {
            return STATE;
        }
        int old = lines.plates[n];
        lines.plates[n] = v;
        return old;
    }

    public int meet(int i, int j) {
        if (!lines.has(i) || !lines.has(j) || lines.plates[i] == lines.plates[j]) {
            return BAD;
        }
        if (meetingCount >= MOST_MEETINGS) {
            return FULL;
        }
        meetingFirst[meetingCount] = i;
        meetingSecond[meetingCount] = j;
        meetingCount++;
        return meetingCount - 1;
    }

    public long offset(int plate, int what) {
        if (!isPlate(plate) || what < 0 || what > 1) {
            return FRACTION_BAD;
        }
        solveOffsets();
        return squares.inLowestTerms(squares.numerator(plate), what);
    }

    public int shift() {
        solveOffsets();
        int changed = 0;
        for (int n = 0; n < lines.size; n++) {
            int moved = squares.roundedSum(lines.places[n], lines.plates[n], 1, MOST_PLACE);
            if (moved != lines.places[n]) {
                lines.places[n] = moved;
                changed++;
            }
        }
        return changed;
    }

    // ---- versions

    public int keep() {
        if (versionCount >= MOST_VERSIONS) {
            return FULL;
        }
        versions[versionCount].copyFrom(levels, lines);
        versionCount++;
        return versionCount - 1;
    }

    public int compare(int v, int what) {
        if (!isVersion(v)) {
            return BAD;
        }
        Snapshot version = versions[v];
        switch (what) {
            case 0:
                return version.unlikeHeights(levels);
            case 1:
                return version.unlikeLines(lines);
            case 2:
                return Math.abs(levels.size - version.levelCount);
            case 3:
                return Math.abs(lines.size - version.lineCount);
            case 4:
                return version.greatestGap(levels);
            default:
                return BAD;
        }
    }

    public int back(int v) {
        if (!isVersion(v)) {
            return BAD;
        }
        int changed = versions[v].unlikeHeights(levels) + versions[v].unlikeLines(lines);
        versions[v].copyTo(levels, lines);
        acts.forget();
        return changed;
    }

    public int undo() {
        return acts.takeBack(levels, lines);
    }

    // ---- sheets

    public int sheet(int k, int lane, int n) {
        if (!isSheet(k) || !isLane(lane) || n > MOST_CELLS) {
            return BAD;
        }
        if (n < 0) {
            return -10 - FAULT_SIZE;
        }
        sheets[k].renew(lane, n);
        return 1;
    }

    public int lay(int k, int i, int v) {
        if (!isSheet(k)) {
            return BAD;
        }
        if (sheets[k].isNothing()) {
            return -10 - FAULT_NULL;
        }
        if (!sheets[k].hasCells(i, 1)) {
            return -10 - FAULT_INDEX;
        }
        sheets[k].put(i, v);
        return 1;
    }

    public int scan(int k, int lane, int f, int n) {
        if (!isSheet(k) || !isLane(lane) || n < 0 || n > MOST_SCANNED) {
            return BAD;
        }
        int found = sheets[k].faultAs(lane);
        if (found != 0) {
            return -10 - found;
        }
        int refused = scanRefusal(sheets[k], f, n);
        if (refused != 0) {
            return refused;
        }
        int[] cells = sheets[k].cells;
        for (int t = 0; t < n; t++) {
            int at = f + 3 * t;
            lines.append(cells[at], cells[at + 1], cells[at + 2]);
        }
        return lines.size;
    }

    public int count(int what) {
        switch (what) {
            case 0:
                return levels.size;
            case 1:
                return lines.size;
            case 2:
                return lines.givenCount();
            case 3:
                tieHeights();
                return squares.partCount();
            case 4:
                return sheets[0].isNothing() ? NONE : sheets[0].size;
            case 5:
                return shellText.length;
            case 6:
                return meetingCount;
            case 7:
                return versionCount;
            case 8:
                return acts.size;
            case 9:
                return filled.shellCount;
            default:
                return BAD;
        }
    }

    // ---- what the calls share

    private static boolean isHeight(int v) {
        return v >= 0 && v <= MOST_HEIGHT;
    }

    private static boolean isSideAndSpin(int side, int spin) {
        return side >= 0 && side <= 1 && spin >= 0 && spin <= MOST_SPIN;
    }

    private static boolean isPlate(int v) {
        return v >= 0 && v < PLATES;
    }

    private static boolean isSheet(int k) {
        return k >= 0 && k < SHEETS;
    }

    private static boolean isLane(int lane) {
        return lane >= 0 && lane < LANES;
    }

    private boolean isVersion(int v) {
        return v >= 0 && v < versionCount;
    }

    private boolean isInMeeting(int n) {
        for (int i = 0; i < meetingCount; i++) {
            if (meetingFirst[i] == n || meetingSecond[i] == n) {
                return true;
            }
        }
        return false;
    }

    private boolean isFit(int n, int u, int l) {
        return levels.isStep(u, l) && lines.isNear(n, levels.heights[u] - levels.heights[l]);
    }

    private int countFits(int n) {
        int found = 0;
        for (int u = 0; u < levels.size; u++) {
            for (int l = 0; l < levels.size; l++) {
                found += isFit(n, u, l) ? 1 : 0;
            }
        }
        return found;
    }

    private int stepThatFits(int n, int i) {
        int before = 0;
        for (int u = 0; u < levels.size; u++) {
            for (int l = 0; l < levels.size; l++) {
                if (isFit(n, u, l)) {
                    if (before == i) {
                        return MOST_LEVELS * u + l;
                    }
                    before++;
                }
            }
        }
        return NONE;
    }

    /** What hangs together is known after this, BEST heights only when it is solved too. */
    private void tieHeights() {
        squares.begin(levels.size);
        for (int n = 0; n < lines.size; n++) {
            if (lines.isGiven(n)) {
                squares.tie(lines.uppers[n], lines.lowers[n], lines.places[n]);
            }
        }
    }

    private void solveHeights() {
        tieHeights();
        squares.solve();
    }

    private void solveOffsets() {
        squares.begin(PLATES);
        for (int i = 0; i < meetingCount; i++) {
            int a = meetingFirst[i];
            int b = meetingSecond[i];
            squares.tie(lines.plates[a], lines.plates[b], lines.places[b] - lines.places[a]);
        }
        squares.solve();
    }

    /** All LINES are looked at before the first one comes, so that none came if one is refused. */
    private int scanRefusal(Sheet sheet, int f, int n) {
        for (int t = 0; t < n; t++) {
            if (f < 0 || !sheet.hasCells(f + 3 * t, 3)) {
                return -10 - FAULT_INDEX;
            }
            int at = f + 3 * t;
            int refused = lines.refusal(sheet.cells[at], sheet.cells[at + 1], sheet.cells[at + 2], t);
            if (refused != 0) {
                return -20 + refused;
            }
        }
        return 0;
    }

    /** The LEVELS. */
    private static final class Levels {
        int size;
        final int[] heights = new int[MOST_LEVELS];
        final int[] sides = new int[MOST_LEVELS];
        final int[] spinOf = new int[MOST_LEVELS];
        final int[] factors = new int[MOST_LEVELS];

        boolean has(int k) {
            return k >= 0 && k < size;
        }

        int append(int high, int side, int spin) {
            heights[size] = high;
            sides[size] = side;
            spinOf[size] = spin;
            size++;
            return size - 1;
        }

        boolean isStep(int u, int l) {
            return isStepTo(u, sides[l], spinOf[l]);
        }

        boolean isStepTo(int k, int side, int spin) {
            int unlike = Math.abs(spinOf[k] - spin);
            return sides[k] != side && (unlike == 0 || unlike == 2) && spinOf[k] + spin > 0;
        }

        int countOf(int side, int spin) {
            int found = 0;
            for (int k = 0; k < size; k++) {
                found += sides[k] == side && spinOf[k] == spin ? 1 : 0;
            }
            return found;
        }
    }

    /** The LINES; one that is GIVEN to nothing has NONE for both LEVELS. */
    private static final class Lines {
        int size;
        final int[] places = new int[MOST_LINES];
        final int[] ends = new int[MOST_LINES];
        final int[] strengths = new int[MOST_LINES];
        final int[] plates = new int[MOST_LINES];
        final int[] uppers = new int[MOST_LINES];
        final int[] lowers = new int[MOST_LINES];

        boolean has(int n) {
            return n >= 0 && n < size;
        }

        boolean isGiven(int n) {
            return uppers[n] != NONE;
        }

        /** Why a LINE can not come when some more are to come ahead of it; 0 if it can. */
        int refusal(int place, int span, int strength, int ahead) {
            boolean good = place >= 1 && place <= MOST_PLACE && span >= 0 && span <= MOST_END
                && strength >= 0 && strength <= MOST_STRENGTH;
            if (!good) {
                return BAD;
            }
            return size + ahead >= MOST_LINES ? FULL : 0;
        }

        int append(int place, int span, int strength) {
            places[size] = place;
            ends[size] = span;
            strengths[size] = strength;
            plates[size] = 0;
            bind(size, NONE, NONE);
            size++;
            return size - 1;
        }

        void bind(int n, int u, int l) {
            uppers[n] = u;
            lowers[n] = l;
        }

        boolean isNear(int n, int gap) {
            return Math.abs(gap - places[n]) <= ends[n];
        }

        int nearCount(int gap) {
            int found = 0;
            for (int n = 0; n < size; n++) {
                found += isNear(n, gap) ? 1 : 0;
            }
            return found;
        }

        int givenCount() {
            int found = 0;
            for (int n = 0; n < size; n++) {
                found += isGiven(n) ? 1 : 0;
            }
            return found;
        }

        int givenAt(int k) {
            int found = 0;
            for (int n = 0; n < size; n++) {
                found += uppers[n] == k || lowers[n] == k ? 1 : 0;
            }
            return found;
        }

        boolean isGivenTo(int u, int l) {
            for (int n = 0; n < size; n++) {
                if (uppers[n] == u && lowers[n] == l) {
                    return true;
                }
            }
            return false;
        }
    }

    /** Which TRUE heights there can be: a row of bounds says how far each LEVEL can be above each other one. */
    private static final class Net {
        /** Far above any bound: a way through all LEVELS is below 8008000. */
        private static final int UNBOUND = 500000000;
        private static final int PAIRS = MOST_LEVELS * MOST_LEVELS;

        /** Row t: the bounds, when t LINES have been kept; at 8 a + b, how much b can be more than a at most. */
        private final int[][] bounds = new int[MOST_SEARCHED + 1][PAIRS];
        private final int[] searched = new int[MOST_SEARCHED];
        private int searchedCount;
        private int fewest;
        private int fewestMask;

        boolean canClose(Lines lines) {
            openBounds();
            for (int n = 0; n < lines.size; n++) {
                if (lines.isGiven(n)) {
                    if (!agrees(bounds[0], lines, n)) {
                        return false;
                    }
                    tighten(bounds[0], lines, n);
                }
            }
            return true;
        }

        /** Holds after canClose() found that it can, for LEVELS of one PART. */
        int mostAbove(int u, int l) {
            return bounds[0][MOST_LEVELS * l + u];
        }

        int fewestOut(Lines lines) {
            searchedCount = 0;
            for (int n = lines.size - 1; n >= 0; n--) {
                if (lines.isGiven(n) && searchedCount < MOST_SEARCHED) {
                    searched[searchedCount] = n;
                    searchedCount++;
                }
            }
            openBounds();
            fewest = searchedCount + 1;
            fewestMask = 0;
            leaveOut(this, lines, 0, 0, 0);
            return fewestMask;
        }

        /**
         * The greatest number is decided first and kept first, so sets of one size come by their sums,
         * the least first: a later set counts only if it is smaller.
         */
        private static void leaveOut(Net net, Lines lines, int next, int kept, int mask) {
            int out = next - kept;
            if (out >= net.fewest || next > MOST_SEARCHED) {
                return;
            }
            if (next >= net.searchedCount) {
                net.fewest = out;
                net.fewestMask = mask;
                return;
            }
            int n = net.searched[next];
            if (agrees(net.bounds[kept], lines, n)) {
                System.arraycopy(net.bounds[kept], 0, net.bounds[kept + 1], 0, PAIRS);
                tighten(net.bounds[kept + 1], lines, n);
                leaveOut(net, lines, next + 1, kept + 1, mask);
            }
            leaveOut(net, lines, next + 1, kept, mask | 1 << n);
        }

        private void openBounds() {
            Arrays.fill(bounds[0], UNBOUND);
            for (int k = 0; k < MOST_LEVELS; k++) {
                bounds[0][MOST_LEVELS * k + k] = 0;
            }
        }

        private static boolean agrees(int[] row, Lines lines, int n) {
            int u = lines.uppers[n];
            int l = lines.lowers[n];
            int most = row[MOST_LEVELS * l + u];
            int least = -row[MOST_LEVELS * u + l];
            return least <= lines.places[n] + lines.ends[n] && most >= lines.places[n] - lines.ends[n];
        }

        private static void tighten(int[] row, Lines lines, int n) {
            bound(row, lines.lowers[n], lines.uppers[n], lines.places[n] + lines.ends[n]);
            bound(row, lines.uppers[n], lines.lowers[n], lines.ends[n] - lines.places[n]);
        }

        private static void bound(int[] row, int a, int b, int most) {
            if (row[MOST_LEVELS * a + b] <= most) {
                return;
            }
            for (int i = 0; i < MOST_LEVELS; i++) {
                int before = row[MOST_LEVELS * i + a];
                if (before != UNBOUND) {
                    for (int j = 0; j < MOST_LEVELS; j++) {
                        int behind = row[MOST_LEVELS * b + j];
                        if (behind != UNBOUND && before + most + behind < row[MOST_LEVELS * i + j]) {
                            row[MOST_LEVELS * i + j] = before + most + behind;
                        }
                    }
                }
            }
        }
    }

    /**
     * Unknowns tied by differences: which of them hang together, and their least squares,
     * with whole numbers alone: all unknowns get one common denominator.
     */
    private static final class Squares {
        /** Of each unknown the least one of those that it hangs together with. */
        final int[] least = new int[MOST_LEVELS];
        long denominator = 1;
        private int size;
        private final long[][] rows = new long[MOST_LEVELS][MOST_LEVELS + 1];

        void begin(int n) {
            size = n;
            denominator = 1;
            for (int k = 0; k < n; k++) {
                least[k] = k;
                Arrays.fill(rows[k], 0L);
            }
        }

        /** Unknown u less unknown l should be the value. */
        void tie(int u, int l, int value) {
            rows[u][u]++;
            rows[l][l]++;
            rows[u][l]--;
            rows[l][u]--;
            rows[u][size] += value;
            rows[l][size] -= value;
            join(least[u], least[l]);
        }

        private void join(int a, int b) {
            int stays = Math.min(a, b);
            int goes = Math.max(a, b);
            for (int k = 0; k < size; k++) {
                if (least[k] == goes) {
                    least[k] = stays;
                }
            }
        }

        int partCount() {
            int found = 0;
            for (int k = 0; k < size; k++) {
                found += least[k] == k ? 1 : 0;
            }
            return found;
        }

        long numerator(int k) {
            return rows[k][size];
        }

        /**
         * Elimination without fractions: each entry stays a minor of the rows it began with, so each
         * division comes out even, and with 16 ties of values to a million no product leaves a long.
         */
        void solve() {
            holdLeast();
            long before = 1;
            for (int p = 0; p < size; p++) {
                long pivot = rows[p][p];
                // The rows of a part without its least unknown are positive definite: no pivot is 0.
                if (pivot == 0 || before == 0) {
                    return;
                }
                for (int r = 0; r < size; r++) {
                    if (r != p) {
                        eliminate(r, p, before);
                    }
                }
                before = pivot;
            }
            denominator = before;
        }

        /** The least of each part is 0, whatever its ties say. */
        private void holdLeast() {
            for (int k = 0; k < size; k++) {
                if (least[k] == k) {
                    Arrays.fill(rows[k], 0L);
                    rows[k][k] = 1;
                }
            }
        }

        private void eliminate(int r, int p, long before) {
            if (before == 0) {
                return;
            }
            long pivot = rows[p][p];
            long factor = rows[r][p];
            for (int c = 0; c <= size; c++) {
                rows[r][c] = (pivot * rows[r][c] - factor * rows[p][c]) / before;
            }
        }

        long inLowestTerms(long top, int what) {
            long common = commonDivisor(Math.abs(top), denominator);
            if (common == 0) {
                return 0;
            }
            return what == 0 ? top / common : denominator / common;
        }

        private static long commonDivisor(long a, long b) {
            // Of two longs the greater one halves every second turn: 128 turns are more than enough.
            for (int turn = 0; turn < 128 && b != 0; turn++) {
                long left = a % b;
                a = b;
                b = left;
            }
            return a;
        }

        /** A whole number and unknown k, to the next whole number, half of one upwards. */
        int roundedSum(int base, int k, int bottom, int top) {
            if (denominator <= 0) {
                return base;
            }
            long twice = 2 * (base * denominator + numerator(k)) + denominator;
            long whole = Math.floorDiv(twice, 2 * denominator);
            return (int) Math.max(bottom, Math.min(top, whole));
        }
    }

    /** HEIGHTS of new LEVELS sought by sums, and the STEPS that are FORETOLD, in their order. */
    private static final class Seeker {
        private static final int TRIES = 100;
        private static final int TRY_STEP = 37;
        /** Of two LEVELS one alone is the higher one: as many STEPS as there are pairs. */
        private static final int MOST_STEPS = MOST_LEVELS * (MOST_LEVELS - 1) / 2;

        /** HEIGHTS of the LEVELS with which a STEP would be ALLOWED. */
        private final int[] partners = new int[MOST_LEVELS];
        private int partnerCount;
        int sought;
        int soughtScore;
        int stepCount;
        final int[] gaps = new int[MOST_STEPS];
        final int[] uppers = new int[MOST_STEPS];
        final int[] lowers = new int[MOST_STEPS];

        void findPartners(Levels levels, int side, int spin) {
            partnerCount = 0;
            for (int k = 0; k < levels.size; k++) {
                if (levels.isStepTo(k, side, spin)) {
                    partners[partnerCount] = levels.heights[k];
                    partnerCount++;
                }
            }
        }

        int scoreAt(Lines lines, int high) {
            int found = 0;
            for (int n = 0; n < lines.size; n++) {
                found += !lines.isGiven(n) && reaches(lines, n, high) ? 1 : 0;
            }
            return found;
        }

        private boolean reaches(Lines lines, int n, int high) {
            for (int i = 0; i < partnerCount; i++) {
                if (lines.isNear(n, Math.abs(partners[i] - high))) {
                    return true;
                }
            }
            return false;
        }

        /** NONE: nothing can be tried. */
        void seekHeight(Lines lines) {
            sought = NONE;
            soughtScore = 0;
            for (int i = 0; i < partnerCount; i++) {
                for (int n = 0; n < lines.size; n++) {
                    if (!lines.isGiven(n)) {
                        tryHeight(lines, partners[i] - lines.places[n]);
                        tryHeight(lines, partners[i] + lines.places[n]);
                    }
                }
            }
        }

        private void tryHeight(Lines lines, int tried) {
            if (!isHeight(tried)) {
                return;
            }
            // What is tried has a SCORE of 1 at least: the LINE itself fits there.
            int points = scoreAt(lines, tried);
            if (points > soughtScore || points == soughtScore && tried < sought) {
                sought = tried;
                soughtScore = points;
            }
        }

        int chance(Lines lines) {
            int found = 0;
            for (int t = 1; t <= TRIES; t++) {
                found += scoreAt(lines, sought + TRY_STEP * t) >= soughtScore ? 1 : 0;
            }
            return found;
        }

        void foresee(Levels levels, Lines lines) {
            stepCount = 0;
            for (int u = 0; u < levels.size; u++) {
                for (int l = 0; l < levels.size; l++) {
                    int gap = levels.heights[u] - levels.heights[l];
                    if (gap > 0 && levels.isStep(u, l) && !lines.isGivenTo(u, l)) {
                        insertStep(gap, u, l);
                    }
                }
            }
        }

        /** They come by u, then by l: behind those of its gap each keeps that order. */
        private void insertStep(int gap, int u, int l) {
            if (stepCount >= MOST_STEPS) {
                return;
            }
            int at = stepCount;
            while (at > 0 && gaps[at - 1] > gap) {
                gaps[at] = gaps[at - 1];
                uppers[at] = uppers[at - 1];
                lowers[at] = lowers[at - 1];
                at--;
            }
            gaps[at] = gap;
            uppers[at] = u;
            lowers[at] = l;
            stepCount++;
        }
    }

    /** THE TAPE, and the shells that its text told at the latest reading. */
    private static final class ShellText {
        private static final int KIND_END = 0;
        private static final int KIND_NUMBER = 1;
        private static final int KIND_LETTER = 2;
        private static final int KIND_HAT = 3;
        private static final String LETTERS = "spdf";

        int length;
        private final byte[] bytes = new byte[MOST_BYTES];
        int size;
        private final int[] numbers = new int[MOST_SHELLS];
        final int[] letters = new int[MOST_SHELLS];
        final int[] amounts = new int[MOST_SHELLS];
        private int total;
        int faultKind;
        int faultPlace;
        private int next;
        private int kind;
        private int start;
        private int value;

        void append(long v) {
            for (int shift = 56; shift >= 0 && length < MOST_BYTES; shift -= 8) {
                bytes[length] = (byte) (v >> shift);
                length++;
            }
        }

        boolean readAll() {
            size = 0;
            total = 0;
            next = 0;
            faultKind = 0;
            faultPlace = 0;
            boolean good = readToken();
            // The shell after the last one that there may be is always refused.
            for (int turn = 0; turn <= MOST_SHELLS && good; turn++) {
                good = readShell();
                if (good && kind == KIND_END) {
                    return true;
                }
            }
            return false;
        }

        private boolean readShell() {
            if (kind != KIND_NUMBER) {
                return refuse(2, start);
            }
            if (size >= MOST_SHELLS) {
                return refuse(5, start);
            }
            int number = value;
            int numberAt = start;
            if (!readToken()) {
                return false;
            }
            if (kind != KIND_LETTER) {
                return refuse(2, start);
            }
            int letter = value;
            int letterAt = start;
            if (number < 1 || number > 9 || number <= letter) {
                return refuse(3, numberAt);
            }
            if (isTold(number, letter)) {
                return refuse(4, letterAt);
            }
            if (!readToken()) {
                return false;
            }
            if (kind != KIND_HAT) {
                return tell(number, letter, 1, letterAt);
            }
            return readAmount(number, letter);
        }

        private boolean readAmount(int number, int letter) {
            if (!readToken()) {
                return false;
            }
            if (kind != KIND_NUMBER) {
                return refuse(2, start);
            }
            if (value < 1 || value > 4 * letter + 2) {
                return refuse(3, start);
            }
            return tell(number, letter, value, start) && readToken();
        }

        private boolean isTold(int number, int letter) {
            for (int i = 0; i < size; i++) {
                if (numbers[i] == number && letters[i] == letter) {
                    return true;
                }
            }
            return false;
        }

        private boolean tell(int number, int letter, int amount, int at) {
            if (total + amount > MOST_FILLED) {
                return refuse(5, at);
            }
            numbers[size] = number;
            letters[size] = letter;
            amounts[size] = amount;
            total += amount;
            size++;
            return true;
        }

        private boolean refuse(int why, int at) {
            faultKind = why;
            faultPlace = at;
            return false;
        }

        private boolean readToken() {
            while (next < length && bytes[next] == ' ') {
                next++;
            }
            start = next;
            if (next >= length) {
                kind = KIND_END;
                return true;
            }
            if (isFigure(next)) {
                return readNumber();
            }
            char sign = (char) (bytes[next] & 255);
            value = LETTERS.indexOf(sign);
            kind = sign == '^' ? KIND_HAT : KIND_LETTER;
            if (value < 0 && kind != KIND_HAT) {
                return refuse(1, start);
            }
            next++;
            return true;
        }

        private boolean readNumber() {
            kind = KIND_NUMBER;
            value = 0;
            while (next < start + 2 && isFigure(next)) {
                value = 10 * value + bytes[next] - '0';
                next++;
            }
            return !isFigure(next) || refuse(1, start);
        }

        private boolean isFigure(int at) {
            return at < length && bytes[at] >= '0' && bytes[at] <= '9';
        }
    }

    /** How many FILLINGS of all shells have each M and H, and the TERMS that come of it. */
    private static final class Fillings {
        private static final int WIDTH = 2 * MOST_FILLED + 1;
        private static final int CELLS = (2 * MOST_M + 1) * WIDTH;
        private static final int MIDDLE = MOST_M * WIDTH + MOST_FILLED;

        /** Of one h a shell of f has 7 PLACES; no choice of them has an m sum beyond 6. */
        private static final int MOST_HALF = 7;
        private static final int HALF_M = 6;

        int shellCount;
        int side;
        private final long[] ways = new long[CELLS];
        /** As ways, with the shell at hand too. */
        private final long[] wider = new long[CELLS];
        /** Row c: the choices of c PLACES of one h, by the sum of their m. */
        private final long[][] halves = new long[MOST_HALF + 1][2 * HALF_M + 1];
        /** A choice of h 1 with one of h -1, by the sum of all m. */
        private final long[] pairs = new long[4 * HALF_M + 1];
        private final long[] termCounts = new long[(MOST_FILLED + 1) * (MOST_M + 1)];
        private int filledBefore;
        /** The sum of l times how many: no M is beyond it, and modulo 2 it is the SIDE. */
        private int letterSum;

        void begin() {
            Arrays.fill(ways, 0L);
            ways[MIDDLE] = 1;
            filledBefore = 0;
            letterSum = 0;
        }

        void fillShell(int letter, int amount) {
            int most = 2 * letter + 1;
            if (letter < 0 || most > MOST_HALF || amount < 1 || filledBefore + amount > MOST_FILLED) {
                return;
            }
            countHalves(letter);
            Arrays.fill(wider, 0L);
            for (int up = Math.max(0, amount - most); up <= amount && up <= most; up++) {
                pairHalves(up, amount - up);
                spreadPairs(2 * up - amount);
            }
            System.arraycopy(wider, 0, ways, 0, CELLS);
            filledBefore += amount;
            letterSum += letter * amount;
        }

        /** From the most chosen downwards, so that no choice has a PLACE twice. */
        private void countHalves(int letter) {
            for (int c = 0; c <= MOST_HALF; c++) {
                Arrays.fill(halves[c], 0L);
            }
            halves[0][HALF_M] = 1;
            for (int m = -letter; m <= letter; m++) {
                for (int c = MOST_HALF; c >= 1; c--) {
                    for (int from = Math.max(0, -m); from <= 2 * HALF_M && from + m <= 2 * HALF_M; from++) {
                        halves[c][from + m] += halves[c - 1][from];
                    }
                }
            }
        }

        private void pairHalves(int up, int down) {
            Arrays.fill(pairs, 0L);
            for (int a = 0; a <= 2 * HALF_M; a++) {
                for (int b = 0; b <= 2 * HALF_M; b++) {
                    pairs[a + b] += halves[up][a] * halves[down][b];
                }
            }
        }

        private void spreadPairs(int h) {
            int far = Math.min(letterSum, MOST_M);
            for (int m = -far; m <= far; m++) {
                for (int before = -filledBefore; before <= filledBefore; before += 2) {
                    long count = waysOf(m, before);
                    if (count != 0) {
                        addPairs(count, m, before + h);
                    }
                }
            }
        }

        private void addPairs(long count, int from, int h) {
            for (int i = 0; i <= 4 * HALF_M; i++) {
                int m = from + i - 2 * HALF_M;
                // No 12 PLACES of four shells reach an M above 32: what lies beyond is 0.
                if (Math.abs(m) <= MOST_M && Math.abs(h) <= MOST_FILLED) {
                    wider[MIDDLE + m * WIDTH + h] += count * pairs[i];
                }
            }
        }

        void finish(int told) {
            shellCount = told;
            side = letterSum % 2;
            for (int k = 0; k <= MOST_FILLED; k++) {
                for (int l = 0; l <= MOST_M; l++) {
                    termCounts[k * (MOST_M + 1) + l] =
                        waysOf(l, k) - waysOf(l + 1, k) - waysOf(l, k + 2) + waysOf(l + 1, k + 2);
                }
            }
        }

        long waysOf(int m, int h) {
            if (Math.abs(m) > MOST_M || Math.abs(h) > MOST_FILLED) {
                return 0;
            }
            return ways[MIDDLE + m * WIDTH + h];
        }

        long termCount(int l, int k) {
            return termCounts[k * (MOST_M + 1) + l];
        }

        long levelsOfSpin(int spin) {
            long sum = 0;
            for (int k = 0; k <= MOST_FILLED; k++) {
                for (int l = 0; l <= MOST_M; l++) {
                    int least = Math.abs(2 * l - k);
                    if (spin >= least && spin <= 2 * l + k && (spin - least) % 2 == 0) {
                        sum += termCount(l, k);
                    }
                }
            }
            return sum;
        }

        long termAt(int i, int what) {
            int before = 0;
            for (int k = MOST_FILLED; k >= 0; k--) {
                for (int l = MOST_M; l >= 0; l--) {
                    if (termCount(l, k) != 0) {
                        if (before == i) {
                            return what == 0 ? l : what == 1 ? k : termCount(l, k);
                        }
                        before++;
                    }
                }
            }
            return NONE;
        }
    }

    /** THE PATTERN of a STEP in a field, in its order. */
    private static final class FieldPattern {
        /** SPINS 9 and 9: ten STRAIGHT ones, nine ROUND ones to each side. */
        private static final int MOST_COMPONENTS = 3 * (MOST_SPIN + 1);

        int size;
        final int[] shifts = new int[MOST_COMPONENTS];
        final int[] straight = new int[MOST_COMPONENTS];
        final int[] strengths = new int[MOST_COMPONENTS];

        void build(Levels levels, int u, int l) {
            size = 0;
            int upperSpin = levels.spinOf[u];
            int lowerSpin = levels.spinOf[l];
            for (int upper = -upperSpin; upper <= upperSpin; upper += 2) {
                for (int lower = upper - 2; lower <= upper + 2; lower += 2) {
                    if (Math.abs(lower) <= lowerSpin) {
                        int moved = levels.factors[u] * upper - levels.factors[l] * lower;
                        int strength = lowerSpin < upperSpin
                            ? strengthFrom(lowerSpin, lower, upper, false)
                            : strengthFrom(upperSpin, upper, lower, lowerSpin == upperSpin);
                        merge(moved, upper == lower ? 1 : 0, strength);
                    }
                }
            }
        }

        /** With the less SPIN s, its own number a and the other one's b. */
        private static int strengthFrom(int s, int a, int b, boolean alike) {
            if (alike) {
                if (a == b) {
                    return a * a;
                }
                return b > a ? (s - a) * (s + a + 2) / 2 : (s + a) * (s - a + 2) / 2;
            }
            if (a == b) {
                return (s + 2) * (s + 2) - a * a;
            }
            return b > a ? (s + a + 2) * (s + a + 4) / 2 : (s - a + 2) * (s - a + 4) / 2;
        }

        private void merge(int moved, int sort, int strength) {
            if (strength == 0) {
                return;
            }
            int at = 0;
            while (at < size && isAhead(at, moved, sort)) {
                at++;
            }
            if (at < size && shifts[at] == moved && straight[at] == sort) {
                strengths[at] += strength;
                return;
            }
            if (size >= MOST_COMPONENTS) {
                return;
            }
            for (int i = size; i > at; i--) {
                shifts[i] = shifts[i - 1];
                straight[i] = straight[i - 1];
                strengths[i] = strengths[i - 1];
            }
            shifts[at] = moved;
            straight[at] = sort;
            strengths[at] = strength;
            size++;
        }

        private boolean isAhead(int i, int moved, int sort) {
            return shifts[i] < moved || shifts[i] == moved && straight[i] > sort;
        }

        int straightCount() {
            int found = 0;
            for (int i = 0; i < size; i++) {
                found += straight[i];
            }
            return found;
        }

        int strengthOf(int sort) {
            int sum = 0;
            for (int i = 0; i < size; i++) {
                sum += straight[i] == sort ? strengths[i] : 0;
            }
            return sum;
        }

        boolean isLike(Sheet sheet, int from, int n, int within) {
            if (size != n || !sheet.hasCells(from, n)) {
                return false;
            }
            for (int i = 0; i < n; i++) {
                // A CELL may be any int: the difference may need a long.
                long unlike = (long) shifts[i] - sheet.cells[from + i];
                if (Math.abs(unlike) > within) {
                    return false;
                }
            }
            return true;
        }
    }

    /** HEIGHTS, and what LINES were GIVEN to, as they were once. */
    private static final class Snapshot {
        int levelCount;
        int lineCount;
        private final int[] heights = new int[MOST_LEVELS];
        private final int[] uppers = new int[MOST_LINES];
        private final int[] lowers = new int[MOST_LINES];

        void copyFrom(Levels levels, Lines lines) {
            levelCount = levels.size;
            lineCount = lines.size;
            System.arraycopy(levels.heights, 0, heights, 0, levelCount);
            System.arraycopy(lines.uppers, 0, uppers, 0, lineCount);
            System.arraycopy(lines.lowers, 0, lowers, 0, lineCount);
        }

        void copyTo(Levels levels, Lines lines) {
            int sharedLines = Math.min(lineCount, lines.size);
            System.arraycopy(heights, 0, levels.heights, 0, Math.min(levelCount, levels.size));
            System.arraycopy(uppers, 0, lines.uppers, 0, sharedLines);
            System.arraycopy(lowers, 0, lines.lowers, 0, sharedLines);
        }

        int unlikeHeights(Levels levels) {
            int found = 0;
            for (int k = 0; k < levelCount && k < levels.size; k++) {
                found += heights[k] != levels.heights[k] ? 1 : 0;
            }
            return found;
        }

        int greatestGap(Levels levels) {
            int most = 0;
            for (int k = 0; k < levelCount && k < levels.size; k++) {
                most = Math.max(most, Math.abs(heights[k] - levels.heights[k]));
            }
            return most;
        }

        int unlikeLines(Lines lines) {
            int found = 0;
            for (int n = 0; n < lineCount && n < lines.size; n++) {
                found += uppers[n] != lines.uppers[n] || lowers[n] != lines.lowers[n] ? 1 : 0;
            }
            return found;
        }
    }

    /** ACTS that can be undone: a ring of what was ahead of each. */
    private static final class Acts {
        int size;
        private int oldest;
        private final Snapshot[] ahead = new Snapshot[MOST_ACTS];

        Acts() {
            for (int i = 0; i < MOST_ACTS; i++) {
                ahead[i] = new Snapshot();
            }
        }

        void forget() {
            size = 0;
        }

        void remember(Levels levels, Lines lines) {
            if (size == MOST_ACTS) {
                oldest = (oldest + 1) % MOST_ACTS;
                size--;
            }
            ahead[(oldest + size) % MOST_ACTS].copyFrom(levels, lines);
            size++;
        }

        int takeBack(Levels levels, Lines lines) {
            if (size == 0) {
                return NONE;
            }
            size--;
            ahead[(oldest + size) % MOST_ACTS].copyTo(levels, lines);
            return size;
        }
    }

    /** A row of CELLS of a lane, or nothing. */
    private static final class Sheet {
        private static final int NOTHING = -1;

        int size;
        final int[] cells = new int[MOST_CELLS];
        private int lane = NOTHING;

        boolean isNothing() {
            return lane == NOTHING;
        }

        void renew(int newLane, int n) {
            lane = newLane;
            size = n;
            Arrays.fill(cells, 0);
        }

        int faultAs(int wanted) {
            if (isNothing()) {
                return FAULT_NULL;
            }
            return lane == wanted ? 0 : FAULT_CAST;
        }

        boolean hasCells(int from, int n) {
            return from >= 0 && from <= size - n;
        }

        void put(int i, int v) {
            cells[i] = lane == 0 ? (byte) v : lane == 1 ? (short) v : v;
        }
    }
}
