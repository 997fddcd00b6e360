/** Promises 33 to 36: factor, pattern, component, match. */
public final class FieldsTest {
    private static final Due DUE = new Due("FieldsTest");
    private static final int LEAST = Integer.MIN_VALUE;
    private static final int MOST = Integer.MAX_VALUE;

    public static void main(String[] args) {
        factor();
        patternWithoutFactors();
        patternSums();
        components();
        merged();
        componentOrder();
        match();
        matchBounds();
        DUE.end();
    }

    private static AtomLadders pair(int upperSpin, int upperFactor, int lowerSpin, int lowerFactor) {
        AtomLadders x = new AtomLadders();
        x.level(100, 0, upperSpin);
        x.level(0, 1, lowerSpin);
        x.factor(0, upperFactor);
        x.factor(1, lowerFactor);
        return x;
    }

    private static void factor() {
        AtomLadders x = new AtomLadders();
        DUE.is("33 bad", x.factor(0, 0), -1000);
        x.level(0, 0, 0);
        DUE.is("33 0 at first", x.factor(0, 100), 0);
        DUE.is("33 what it was", x.factor(0, -100), 100);
        DUE.is("33 what it was", x.factor(0, 7), -100);
        DUE.is("33 bad", x.factor(0, 101), -1000);
        DUE.is("33 bad", x.factor(0, -101), -1000);
        DUE.is("33 bad", x.factor(1, 0), -1000);
        DUE.is("33 bad", x.factor(-1, 0), -1000);
        DUE.is("33 stays", x.factor(0, 0), 7);
        DUE.is("33 no act", x.count(8), 0);
    }

    private static void patternWithoutFactors() {
        AtomLadders x = pair(2, 0, 2, 0);
        DUE.is("34 one of each sort", x.pattern(0, 1, 0), 2);
        DUE.is("34 straight", x.pattern(0, 1, 1), 1);
        DUE.is("35 straight ones ahead", x.component(0, 1, 0, 1), 1);
        DUE.is("35 round", x.component(0, 1, 1, 1), 0);
        DUE.is("35 summed", x.component(0, 1, 0, 2), 8);
        DUE.is("35 summed", x.component(0, 1, 1, 2), 16);
        DUE.is("34 bad", x.pattern(2, 0, 0), -1);
        DUE.is("34 bad", x.pattern(0, 2, 0), -1);
        DUE.is("34 bad", x.pattern(-1, 0, 0), -1);
        DUE.is("34 bad", x.pattern(0, -1, 0), -1);
        DUE.is("34 bad", x.pattern(0, 1, 4), -1);
        DUE.is("34 bad", x.pattern(0, 1, -1), -1);
        DUE.is("34 bad ahead of state", x.pattern(0, 0, 4), -1);
        DUE.is("34 state", x.pattern(0, 0, 0), -2);
    }

    /** Of each step the round ones have twice the strength of the straight ones. */
    private static void patternSums() {
        for (int spin = 0; spin <= 9; spin++) {
            for (int other = spin; other <= Math.min(9, spin + 2); other += 2) {
                if (spin + other > 0) {
                    AtomLadders x = pair(spin, 37, other, -53);
                    long straight = 0;
                    for (int a = -spin; a <= spin; a += 2) {
                        straight += spin == other ? a * a : (spin + 2) * (spin + 2) - a * a;
                    }
                    DUE.is("34 straight " + spin + " " + other, x.pattern(0, 1, 2), straight);
                    DUE.is("34 round " + spin + " " + other, x.pattern(0, 1, 3), 2 * straight);
                    DUE.is("34 straight, down", x.pattern(1, 0, 2), straight);
                    DUE.is("34 round, down", x.pattern(1, 0, 3), 2 * straight);
                }
            }
        }
        // ten straight ones and 18 round ones of 9 and 9; of 4 and 4 that of 0 is none
        DUE.is("34 the most", pair(9, 100, 9, -99).pattern(0, 1, 0), 28);
        DUE.is("34 the most", pair(9, 100, 9, -99).pattern(0, 1, 1), 10);
        DUE.is("34 strength 0 is none", pair(4, 100, 4, -99).pattern(0, 1, 1), 4);
        DUE.is("34 strength 0 is none", pair(4, 100, 4, -99).pattern(0, 1, 0), 12);
    }

    private static void component(AtomLadders x, int[][] due, int u, int l) {
        DUE.is("34 how many", x.pattern(u, l, 0), due.length);
        for (int i = 0; i < due.length; i++) {
            for (int what = 0; what < 3; what++) {
                DUE.is("35 component " + i + " " + what, x.component(u, l, i, what), due[i][what]);
            }
        }
    }

    private static void components() {
        // SPINS 1 and 1: (1, 1), (-1, -1) straight 1; (1, -1), (-1, 1) round (1 + 1)(1 - 1 + 2) / 2 = 2
        component(pair(1, 10, 1, 1), new int[][] {{-11, 0, 2}, {-9, 1, 1}, {9, 1, 1}, {11, 0, 2}}, 0, 1);
        // SPINS 1 and 3: straight 9 - 1; round to 3 (1 + 1 + 2)(1 + 1 + 4) / 2 = 12, to the other -1, 1: 2 4 / 2
        component(pair(1, 10, 3, 1),
            new int[][] {{-11, 0, 4}, {-9, 1, 8}, {-7, 0, 12}, {7, 0, 12}, {9, 1, 8}, {11, 0, 4}}, 0, 1);
        // the same step downwards: the shifts of U, V with 3 and 1
        component(pair(3, 10, 1, 1),
            new int[][] {{-29, 0, 12}, {-11, 0, 4}, {-9, 1, 8}, {9, 1, 8}, {11, 0, 4}, {29, 0, 12}}, 0, 1);
        AtomLadders x = pair(1, 10, 1, 1);
        x.level(0, 0, 9);
        DUE.is("35 none such", x.component(0, 1, 4, 0), -1000000);
        DUE.is("35 none such", x.component(0, 1, -1, 0), -1000000);
        DUE.is("35 none such", x.component(0, 1, MOST, 0), -1000000);
        DUE.is("35 none such", x.component(0, 1, LEAST, 0), -1000000);
        DUE.is("35 bad", x.component(0, 1, 0, 3), -1000000);
        DUE.is("35 bad", x.component(0, 1, 0, -1), -1000000);
        DUE.is("35 bad", x.component(3, 1, 0, 0), -1000000);
        DUE.is("35 bad", x.component(0, 3, 0, 0), -1000000);
        DUE.is("35 bad", x.component(-1, 1, 0, 0), -1000000);
        DUE.is("35 bad", x.component(0, -1, 0, 0), -1000000);
        DUE.is("35 state", x.component(0, 2, 0, 0), -1000002);
        DUE.is("35 bad ahead of state", x.component(0, 2, 0, 3), -1000000);
    }

    private static void merged() {
        // FACTORS alike: all straight ones at 0, the round ones at -20, 20
        component(pair(3, 10, 3, 10), new int[][] {{-20, 0, 20}, {0, 1, 20}, {20, 0, 20}}, 0, 1);
        // SPINS 0 and 2, FACTOR of the lower one 0: all at 0, the straight one ahead
        component(pair(0, 5, 2, 0), new int[][] {{0, 1, 4}, {0, 0, 8}}, 0, 1);
        // FACTORS 1 and 2 of SPINS 2: (2, 2) and (-2, 0) are both at -2, of two sorts
        component(pair(2, 1, 2, 2),
            new int[][] {{-4, 0, 4}, {-2, 1, 4}, {-2, 0, 4}, {2, 1, 4}, {2, 0, 4}, {4, 0, 4}}, 0, 1);
    }

    private static void componentOrder() {
        AtomLadders x = pair(9, 100, 9, 100);
        x.factor(1, -37);
        int before = Integer.MIN_VALUE;
        for (int i = 0; i < x.pattern(0, 1, 0); i++) {
            int key = 2 * x.component(0, 1, i, 0) + 1 - x.component(0, 1, i, 1);
            DUE.holds("35 in order", key > before);
            before = key;
        }
    }

    private static void lay(AtomLadders x, int k, int from, int... cells) {
        for (int i = 0; i < cells.length; i++) {
            DUE.is("46 lay", x.lay(k, from + i, cells[i]), 1);
        }
    }

    private static void match() {
        AtomLadders x = pair(1, 10, 1, 1);
        x.level(5, 0, 3);
        x.factor(2, 50);
        x.sheet(2, 0, 10);
        lay(x, 2, 3, -11, -9, 9, 11);
        // the shifts of the step the other way are the same ones with other signs
        DUE.is("36 both ways", x.match(2, 0, 3, 4, 0), 2);
        lay(x, 2, 3, -14, -9, 9, 11);
        DUE.is("36 not to 2", x.match(2, 0, 3, 4, 2), 0);
        DUE.is("36 to 3", x.match(2, 0, 3, 4, 3), 2);
        DUE.is("36 another start", x.match(2, 0, 2, 4, 3), 0);
        DUE.is("36 another length", x.match(2, 0, 3, 5, 1000), 0);
        DUE.is("36 another length", x.match(2, 0, 3, 3, 1000), 0);
        DUE.is("36 six of them", x.match(2, 0, 0, 6, 1000), 2);
        x.level(6, 1, 1);
        DUE.is("36 more steps", x.match(2, 0, 0, 4, 1000), 4);
        DUE.is("36 more steps", x.match(2, 0, 0, 6, 1000), 4);
        lay(x, 2, 3, -10, -10, 10, 10);
        DUE.is("36 straight and round of one shift are two", x.match(2, 0, 3, 4, 0), 2);
    }

    private static void matchBounds() {
        AtomLadders x = pair(1, 10, 1, 1);
        DUE.is("36 null", x.match(0, 1, 0, 1, 0), -11);
        x.sheet(0, 1, 20);
        DUE.is("36 cast", x.match(0, 0, 0, 1, 0), -13);
        DUE.is("36 cast", x.match(0, 2, 0, 1, 0), -13);
        DUE.is("36 cast ahead of index", x.match(0, 2, 20, 1, 0), -13);
        DUE.is("36 index", x.match(0, 1, 20, 1, 0), -12);
        DUE.is("36 index", x.match(0, 1, 1, 20, 0), -12);
        DUE.is("36 index", x.match(0, 1, -1, 1, 0), -12);
        DUE.is("36 index", x.match(0, 1, MOST, 20, 0), -12);
        DUE.is("36 index", x.match(0, 1, LEAST, 20, 0), -12);
        DUE.is("36 all of it", x.match(0, 1, 0, 20, 0), 0);
        DUE.is("36 the last", x.match(0, 1, 19, 1, 1000), 0);
        DUE.is("36 bad", x.match(-1, 1, 0, 1, 0), -1);
        DUE.is("36 bad", x.match(4, 1, 0, 1, 0), -1);
        DUE.is("36 bad", x.match(0, -1, 0, 1, 0), -1);
        DUE.is("36 bad", x.match(0, 3, 0, 1, 0), -1);
        DUE.is("36 bad", x.match(0, 1, 0, 0, 0), -1);
        DUE.is("36 bad", x.match(0, 1, 0, 21, 0), -1);
        DUE.is("36 bad", x.match(0, 1, 0, 1, -1), -1);
        DUE.is("36 bad", x.match(0, 1, 0, 1, 1001), -1);
        DUE.is("36 bad ahead of null", x.match(1, 1, 0, 21, 0), -1);
        x.sheet(3, 2, 4);
        lay(x, 3, 0, LEAST, MOST, MOST, LEAST);
        DUE.is("36 far away", x.match(3, 2, 0, 4, 1000), 0);
        lay(x, 3, 0, -1011, -1009, 1009, 1011);
        DUE.is("36 to 1000", x.match(3, 2, 0, 4, 1000), 2);
        DUE.is("36 not to 999", x.match(3, 2, 0, 4, 999), 0);
    }
}
