/** The boundary cases of promises 33 to 36, sentence by sentence. */
public final class BoundsFieldsTest {
    private static final Due DUE = new Due("BoundsFieldsTest");
    private static final Edges EDGES = new Edges(DUE);
    private static final int LEAST = Integer.MIN_VALUE;
    private static final int MOST = Integer.MAX_VALUE;
    private static final int BAD = -1;
    private static final int STATE = -2;
    private static final int FACTOR_BAD = -1000;
    private static final int COMPONENT_BAD = -1000000;
    private static final int COMPONENT_STATE = -1000002;

    public static void main(String[] args) {
        factorNumbers();
        factorStays();
        patternNumbers();
        patternSpins();
        patternNoStrength();
        patternAnew();
        componentNumbers();
        componentShifts();
        componentMerged();
        matchNumbers();
        matchFaults();
        matchOrder();
        matchCells();
        matchEnds();
        matchLengths();
        matchSteps();
        DUE.end();
    }

    private static AtomLadders pair(int upperSpin, int upperFactor, int lowerSpin, int lowerFactor) {
        AtomLadders x = new AtomLadders();
        x.level(100, 0, upperSpin);
        x.level(0, 1, lowerSpin);
        x.factor(0, upperFactor);
        x.factor(1, lowerFactor);
        return x;
    }

    // ---- 33

    private static void factorNumbers() {
        EDGES.of("33 FACTOR", -100, 100, v -> pair(1, 7, 1, 0).factor(0, v), v -> 7, FACTOR_BAD);
        EDGES.of("33 FACTOR then", -100, 100, v -> {
            AtomLadders x = pair(1, 7, 1, 0);
            return x.factor(0, v) == FACTOR_BAD ? FACTOR_BAD : x.factor(0, 0);
        }, v -> v, FACTOR_BAD);
        EDGES.of("33 the LEVEL", 0, 1, v -> pair(1, 7, 1, 8).factor(v, 3), v -> 7 + v, FACTOR_BAD);
        DUE.is("33 no LEVELS", new AtomLadders().factor(0, 0), FACTOR_BAD);
        EDGES.of("33 the eighth LEVEL", 0, 7, v -> {
            AtomLadders x = new AtomLadders();
            for (int k = 0; k < 8; k++) {
                x.level(0, 0, 0);
            }
            return x.factor(v, 100);
        }, v -> 0, FACTOR_BAD);
    }

    private static void factorStays() {
        AtomLadders x = pair(1, 7, 1, 0);
        EDGES.outside("33 refused", -100, 100, v -> x.factor(0, v), FACTOR_BAD);
        DUE.is("33 refused: what it was", x.factor(0, 7), 7);
        DUE.is("33 no ACT", x.count(8), 0);
        x.height(0, 5);
        x.factor(0, 9);
        x.undo();
        DUE.is("33 undo() leaves it", x.factor(0, 0), 9);
    }

    // ---- 34

    private static void patternNumbers() {
        AtomLadders x = pair(2, 3, 2, 5);
        x.level(7, 0, 2);
        int[] due = {6, 2, 8, 16};
        EDGES.of("34 what", 0, 3, v -> x.pattern(0, 1, v), v -> due[v], BAD);
        EDGES.outside("34 what, BAD ahead of STATE", 0, 3, v -> x.pattern(0, 0, v), BAD);
        for (int what = 0; what < 4; what++) {
            int asked = what;
            EDGES.outside("34 u", 0, 2, v -> x.pattern(v, 1, asked), BAD);
            EDGES.outside("34 l", 0, 2, v -> x.pattern(0, v, asked), BAD);
            DUE.is("34 one and the same", x.pattern(0, 0, what), STATE);
            DUE.is("34 one SIDE", x.pattern(0, 2, what), STATE);
            DUE.is("34 no LEVELS", new AtomLadders().pattern(0, 0, what), BAD);
            DUE.is("34 SPINS both 0", pair(0, 1, 0, 1).pattern(0, 1, what), STATE);
            DUE.is("34 SPINS unlike by 1", pair(1, 1, 2, 1).pattern(0, 1, what), STATE);
            DUE.is("34 SPINS unlike by 4", pair(1, 1, 5, 1).pattern(0, 1, what), STATE);
        }
        DUE.is("34 the last LEVEL as u", x.pattern(2, 1, 0), 5);
        DUE.is("34 the last LEVEL as l", x.pattern(1, 2, 0), 5);
    }

    /** With FACTORS that part all: SPINS alike s + 1 STRAIGHT ones (without a 0) and 2 s ROUND ones, else thrice s + 1. */
    private static void patternSpins() {
        for (int s = 0; s <= 9; s++) {
            if (s > 0) {
                AtomLadders x = pair(s, 100, s, -99);
                int straight = s % 2 == 0 ? s : s + 1;
                DUE.is("34 STRAIGHT " + s, x.pattern(0, 1, 1), straight);
                DUE.is("34 all " + s, x.pattern(0, 1, 0), straight + 2 * s);
            }
            if (s <= 7) {
                AtomLadders x = pair(s, 100, s + 2, -99);
                DUE.is("34 STRAIGHT " + s + ", " + (s + 2), x.pattern(0, 1, 1), s + 1);
                DUE.is("34 all " + s + ", " + (s + 2), x.pattern(0, 1, 0), 3 * (s + 1));
                DUE.is("34 the other way", x.pattern(1, 0, 0), 3 * (s + 1));
            }
        }
    }

    private static void patternNoStrength() {
        // SPINS 2 and 2: U 0, V 0 has none; FACTORS 0: one STRAIGHT, one ROUND
        AtomLadders x = pair(2, 0, 2, 0);
        DUE.is("34 at one SHIFT", x.pattern(0, 1, 0), 2);
        DUE.is("34 STRAIGHT", x.pattern(0, 1, 1), 1);
        AtomLadders y = pair(2, 1, 2, 0);
        // STRAIGHT at -2, 2, ROUND at -2, 0, 2: none STRAIGHT at 0
        DUE.is("34 COMPONENTS of STRENGTH 0 are none", y.pattern(0, 1, 0), 5);
        DUE.is("34 COMPONENTS of STRENGTH 0 are none", y.component(0, 1, 2, 1), 0);
        DUE.is("34 at 0 the ROUND one", y.component(0, 1, 2, 0), 0);
        AtomLadders z = pair(9, 0, 9, 0);
        int straight = 0;
        for (int a = -9; a <= 9; a += 2) {
            straight += a * a;
        }
        DUE.is("34 the greatest sum, STRAIGHT", z.pattern(0, 1, 2), straight);
        DUE.is("34 the greatest sum, ROUND", z.pattern(0, 1, 3), 2 * straight);
    }

    /** A PATTERN of two, of three behind one of 28: nothing is left of it. */
    private static void patternAnew() {
        AtomLadders x = pair(9, 100, 9, -99);
        x.level(5, 0, 0);
        x.level(6, 1, 2);
        DUE.is("34 28 of them", x.pattern(0, 1, 0), 28);
        int[] due = {2, 1, 4, 8};
        for (int what = 0; what < 4; what++) {
            x.pattern(0, 1, what);
            DUE.is("34 two of them, what " + what, x.pattern(2, 3, what), due[what]);
        }
        DUE.is("35 none more", x.component(2, 3, 2, 0), COMPONENT_BAD);
        x.factor(3, 5);
        // of the 28 the fourth is STRAIGHT: it is no part of the three
        due[0] = 3;
        for (int what = 0; what < 4; what++) {
            DUE.is("34 28 of them", x.pattern(0, 1, 0), 28);
            DUE.is("35 the fourth of 28", x.component(0, 1, 3, 1), 1);
            DUE.is("34 three of them, what " + what, x.pattern(2, 3, what), due[what]);
        }
        DUE.is("35 none more", x.component(2, 3, 3, 0), COMPONENT_BAD);
    }

    // ---- 35

    private static void componentNumbers() {
        AtomLadders x = pair(1, 10, 1, 1);
        x.level(7, 0, 1);
        for (int what = 0; what < 3; what++) {
            int asked = what;
            EDGES.outside("35 i: there is none such", 0, 3, v -> x.component(0, 1, v, asked), COMPONENT_BAD);
            EDGES.outside("35 u", 0, 2, v -> x.component(v, 1, 0, asked), COMPONENT_BAD);
            EDGES.outside("35 l", 0, 2, v -> x.component(0, v, 0, asked), COMPONENT_BAD);
            DUE.is("35 the STEP is not ALLOWED", x.component(0, 2, 0, what), COMPONENT_STATE);
            DUE.is("35 one and the same", x.component(0, 0, 0, what), COMPONENT_STATE);
            DUE.is("35 no LEVELS", new AtomLadders().component(0, 0, 0, what), COMPONENT_BAD);
        }
        EDGES.outside("35 what", 0, 2, v -> x.component(0, 1, 0, v), COMPONENT_BAD);
        EDGES.outside("35 what, BAD ahead of STATE", 0, 2, v -> x.component(0, 2, 0, v), COMPONENT_BAD);
        int[] shifts = {-11, -9, 9, 11};
        EDGES.of("35 i", 0, 3, v -> x.component(0, 1, v, 0), v -> shifts[v], COMPONENT_BAD);
        AtomLadders y = pair(9, 100, 9, -99);
        EDGES.of("35 the 28th", 0, 27, v -> y.component(0, 1, v, 2) > 0 ? 1 : y.component(0, 1, v, 2), v -> 1,
            COMPONENT_BAD);
    }

    private static void componentShifts() {
        AtomLadders x = pair(9, 100, 9, -100);
        int last = x.pattern(0, 1, 0) - 1;
        DUE.is("35 the least SHIFT", x.component(0, 1, 0, 0), -1800);
        DUE.is("35 the greatest SHIFT", x.component(0, 1, last, 0), 1800);
        DUE.is("35 STRAIGHT", x.component(0, 1, last, 1), 1);
        DUE.is("35 its STRENGTH", x.component(0, 1, last, 2), 81);
        AtomLadders y = pair(9, -100, 9, -100);
        DUE.is("35 FACTORS alike: three", y.pattern(0, 1, 0), 3);
        DUE.is("35 the least SHIFT", y.component(0, 1, 0, 0), -200);
        AtomLadders z = pair(0, 100, 2, -100);
        // U is 0: V -2, 0, 2
        DUE.is("35 SPIN 0", z.pattern(0, 1, 0), 3);
        DUE.is("35 SPIN 0", z.component(0, 1, 0, 0), -200);
        DUE.is("35 SPIN 0 has no SHIFT", z.component(0, 1, 1, 0), 0);
        DUE.is("35 SPIN 0", z.component(0, 1, 2, 0), 200);
    }

    private static void componentMerged() {
        AtomLadders x = pair(2, 0, 2, 0);
        DUE.is("35 of one SHIFT the STRAIGHT ones ahead", x.component(0, 1, 0, 1), 1);
        DUE.is("35 STRENGTHS summed", x.component(0, 1, 0, 2), 8);
        DUE.is("35 then the ROUND ones", x.component(0, 1, 1, 1), 0);
        DUE.is("35 STRENGTHS summed", x.component(0, 1, 1, 2), 16);
        DUE.is("35 none more", x.component(0, 1, 2, 0), COMPONENT_BAD);
        // SPINS 1 and 3 from both sides: s is 1, a is its own number
        AtomLadders y = pair(1, 1, 3, 10);
        int[][] up = {{-29, 0, 12}, {-11, 0, 4}, {-9, 1, 8}, {9, 1, 8}, {11, 0, 4}, {29, 0, 12}};
        int[][] down = {{-29, 0, 12}, {-11, 0, 4}, {-9, 1, 8}, {9, 1, 8}, {11, 0, 4}, {29, 0, 12}};
        for (int i = 0; i < 6; i++) {
            for (int what = 0; what < 3; what++) {
                DUE.is("35 the less SPIN is u's", y.component(0, 1, i, what), up[i][what]);
                DUE.is("35 the less SPIN is l's", y.component(1, 0, i, what), down[i][what]);
            }
        }
    }

    // ---- 36

    /** STEPS (0, 1) and (1, 0) with SHIFTS -11, -9, 9, 11; SHEET 1 of a lane with CELLS, the pattern's four at the end. */
    private static AtomLadders laid(int lane, int cells, int... shifts) {
        AtomLadders x = pair(1, 10, 1, 1);
        x.sheet(1, lane, cells);
        for (int i = 0; i < shifts.length; i++) {
            x.lay(1, cells - shifts.length + i, shifts[i]);
        }
        return x;
    }

    private static AtomLadders good(int lane, int cells) {
        return laid(lane, cells, -11, -9, 9, 11);
    }

    private static void matchNumbers() {
        AtomLadders x = good(2, 60);
        EDGES.of("36 n", 1, 20, v -> x.match(1, 2, 0, v, 0), v -> 0, BAD);
        EDGES.of("36 e", 0, 1000, v -> x.match(1, 2, 56, 4, v), v -> 2, BAD);
        EDGES.outside("36 k", 0, 3, v -> x.match(v, 2, 56, 4, 0), BAD);
        EDGES.outside("36 lane", 0, 2, v -> x.match(1, v, 56, 4, 0), BAD);
        DUE.is("36 k 0", x.match(0, 2, 56, 4, 0), -11);
        DUE.is("36 k 3", x.match(3, 2, 56, 4, 0), -11);
        x.sheet(3, 0, 4);
        DUE.is("36 k 3", x.match(3, 0, 0, 4, 11), 2);
        DUE.is("36 no LEVELS", matchAlone(), 0);
    }

    private static int matchAlone() {
        AtomLadders x = new AtomLadders();
        x.sheet(0, 0, 1);
        return x.match(0, 0, 0, 1, 1000);
    }

    private static void matchFaults() {
        for (int lane = 0; lane < 3; lane++) {
            for (int taken = 0; taken < 3; taken++) {
                DUE.is("36 lane " + lane + " as " + taken, good(lane, 4).match(1, taken, 0, 4, 0),
                    taken == lane ? 2 : -13);
            }
            DUE.is("36 nothing", pair(1, 10, 1, 1).match(1, lane, 0, 4, 0), -11);
            int kept = lane;
            EDGES.outside("36 f", 0, 56, v -> good(kept, 60).match(1, kept, v, 4, 0), -12);
            DUE.is("36 the last f", good(lane, 60).match(1, lane, 56, 4, 0), 2);
            EDGES.outside("36 f of 20", 0, 40, v -> good(kept, 60).match(1, kept, v, 20, 0), -12);
            DUE.is("36 the last f of 20", good(lane, 60).match(1, lane, 40, 20, 0), 0);
            EDGES.outside("36 no CELLS", 0, -1, v -> laid(kept, 0).match(1, kept, v, 1, 0), -12);
            DUE.is("36 no CELLS", laid(lane, 0).match(1, lane, 0, 1, 0), -12);
            DUE.is("36 one CELL", laid(lane, 1).match(1, lane, 0, 1, 0), 0);
            DUE.is("36 one CELL", laid(lane, 1).match(1, lane, 0, 2, 0), -12);
        }
    }

    private static void matchOrder() {
        AtomLadders x = good(1, 10);
        DUE.is("36 CAST ahead of INDEX", x.match(1, 0, -1, 4, 0), -13);
        DUE.is("36 CAST ahead of INDEX", x.match(1, 2, MOST, 4, 0), -13);
        DUE.is("36 NULL ahead of INDEX", x.match(0, 2, LEAST, 4, 0), -11);
        DUE.is("36 n ahead of NULL", x.match(0, 1, 0, 0, 0), BAD);
        DUE.is("36 e ahead of NULL", x.match(0, 1, 0, 1, -1), BAD);
        DUE.is("36 n ahead of CAST", x.match(1, 0, 0, 21, 0), BAD);
        DUE.is("36 e ahead of CAST", x.match(1, 0, 0, 20, 1001), BAD);
        DUE.is("36 e ahead of INDEX", x.match(1, 1, 10, 1, 1001), BAD);
        DUE.is("36 lane ahead of NULL", x.match(0, 3, 0, 1, 0), BAD);
    }

    /** A CELL of a lane has the lowest bits alone. */
    private static void matchCells() {
        DUE.is("36 bytes", laid(0, 4, 245, 247, 9 - 256, 11 + 512).match(1, 0, 0, 4, 0), 2);
        DUE.is("36 shorts", laid(1, 4, 65525, 65527, 9 - 65536, 11 + 131072).match(1, 1, 0, 4, 0), 2);
        DUE.is("36 shorts are no bytes", laid(1, 4, 245, -9, 9, 11).match(1, 1, 0, 4, 0), 0);
        DUE.is("36 ints are no shorts", laid(2, 4, 65525, -9, 9, 11).match(1, 2, 0, 4, 1000), 0);
        DUE.is("36 ints", laid(2, 4, -11, -9, 9, 11).match(1, 2, 0, 4, 0), 2);
    }

    private static void matchEnds() {
        for (int i = 0; i < 4; i++) {
            for (int away : new int[] {-1000, -1, 1, 1000}) {
                int[] cells = {-11, -9, 9, 11};
                cells[i] += away;
                int end = Math.abs(away);
                DUE.is("36 to END " + end, laid(2, 4, cells).match(1, 2, 0, 4, end), 2);
                DUE.is("36 not to END " + (end - 1), laid(2, 4, cells).match(1, 2, 0, 4, end - 1), 0);
            }
            for (int far : new int[] {LEAST, LEAST + 1, MOST, MOST - 1, 1000000, -1000000}) {
                int[] cells = {-11, -9, 9, 11};
                cells[i] = far;
                DUE.is("36 far away: " + far, laid(2, 4, cells).match(1, 2, 0, 4, 1000), 0);
            }
        }
    }

    private static void matchLengths() {
        AtomLadders x = laid(2, 60);
        for (int n = 1; n <= 20; n++) {
            DUE.is("36 they have n COMPONENTS: " + n, x.match(1, 2, 0, n, 1000), n == 4 ? 2 : 0);
        }
        AtomLadders y = pair(6, 100, 6, -99);
        y.sheet(1, 2, 20);
        int size = y.pattern(0, 1, 0);
        DUE.is("36 18 of them", size, 18);
        for (int i = 0; i < size; i++) {
            y.lay(1, i, y.component(0, 1, i, 0));
        }
        DUE.is("36 18 of them", y.match(1, 2, 0, 18, 0), 2);
        DUE.is("36 no 19", y.match(1, 2, 0, 19, 1000), 0);
        // SPINS 7 and 7 have 22 of them, of which two pairs are of one SHIFT with FACTORS 2 and 3
        twenty(pair(7, 2, 7, 3));
        AtomLadders w = pair(9, 100, 9, -99);
        w.sheet(1, 2, 20);
        DUE.is("36 one with 28 is none of 20", w.match(1, 2, 0, 20, 1000), 0);
    }

    private static void twenty(AtomLadders x) {
        DUE.is("36 there are 20", x.pattern(0, 1, 0), 20);
        x.sheet(1, 1, 20);
        for (int i = 0; i < 20; i++) {
            x.lay(1, i, x.component(0, 1, i, 0));
        }
        DUE.is("36 20 of them", x.match(1, 1, 0, 20, 0), 2);
        x.lay(1, 19, x.component(0, 1, 19, 0) + 1);
        DUE.is("36 the last is off", x.match(1, 1, 0, 20, 0), 0);
        DUE.is("36 the last is off by 1", x.match(1, 1, 0, 20, 1), 2);
    }

    private static void matchSteps() {
        AtomLadders x = new AtomLadders();
        x.sheet(1, 0, 2);
        for (int k = 0; k < 8; k++) {
            x.level(0, k % 2, 2);
        }
        DUE.is("36 all ALLOWED STEPS there can be", x.match(1, 0, 0, 2, 0), 32);
        x.factor(7, 1);
        DUE.is("36 all but those of one LEVEL", x.match(1, 0, 0, 2, 0), 24);
        AtomLadders y = new AtomLadders();
        y.sheet(1, 0, 2);
        for (int k = 0; k < 8; k++) {
            y.level(0, 0, 2);
        }
        DUE.is("36 no ALLOWED STEPS", y.match(1, 0, 0, 2, 1000), 0);
    }
}
