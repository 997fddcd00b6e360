/** The boundary cases of promises 1 to 13, sentence by sentence. */
public final class BoundsLevelsTest {
    private static final Due DUE = new Due("BoundsLevelsTest");
    private static final Edges EDGES = new Edges(DUE);
    private static final int BAD = -1;
    private static final int STATE = -2;
    private static final int FULL = -3;
    private static final int NONE = -4;

    public static void main(String[] args) {
        newObject();
        levelNumbers();
        levelFull();
        height();
        told();
        toldParts();
        toldGiven();
        lineNumbers();
        lineFull();
        drop();
        dropInMeeting();
        dropForgets();
        about();
        allowedNumbers();
        allowedRule();
        fitsNumbers();
        fitsEnds();
        fitsBelow();
        fitsAll();
        giveNumbers();
        giveStates();
        take();
        giveAllNone();
        giveAllCounts();
        giveAllMost();
        DUE.end();
    }

    /** Heights 100 apart, sides in turn, spin 2; lines of place 100, end 0. */
    private static AtomLadders ladder(int levels, int lines) {
        AtomLadders x = new AtomLadders();
        for (int k = 0; k < levels; k++) {
            x.level(100 * k, k % 2, 2);
        }
        for (int n = 0; n < lines; n++) {
            x.line(100, 0, n);
        }
        return x;
    }

    // ---- 1

    private static void newObject() {
        AtomLadders x = new AtomLadders();
        DUE.is("1 no LEVELS", x.count(0), 0);
        DUE.is("1 no LINES", x.count(1), 0);
        DUE.is("1 no LINES are GIVEN", x.count(2), 0);
        DUE.is("1 no PARTS", x.count(3), 0);
        DUE.is("1 SHEET 0 has nothing", x.count(4), NONE);
        DUE.is("1 no bytes", x.count(5), 0);
        DUE.is("1 no MEETINGS", x.count(6), 0);
        DUE.is("1 no VERSIONS", x.count(7), 0);
        DUE.is("1 no ACTS", x.count(8), 0);
        DUE.is("1 no shells", x.count(9), 0);
        for (int k = 0; k < 4; k++) {
            for (int lane = 0; lane < 3; lane++) {
                DUE.is("1 SHEETS have nothing", x.match(k, lane, 0, 1, 0), -11);
            }
        }
        AtomLadders y = new AtomLadders();
        y.level(1, 0, 0);
        DUE.is("1 objects have nothing of one another", x.count(0), 0);
        DUE.is("1 objects have nothing of one another", new AtomLadders().count(0), 0);
    }

    // ---- 2

    private static long levelTold(int height, int side, int spin, int what) {
        AtomLadders x = new AtomLadders();
        x.level(height, side, spin);
        return x.told(0, what);
    }

    private static void levelNumbers() {
        EDGES.of("2 HEIGHT", 0, 1000000, v -> new AtomLadders().level(v, 0, 0), v -> 0, BAD);
        EDGES.of("2 SIDE", 0, 1, v -> new AtomLadders().level(0, v, 0), v -> 0, BAD);
        EDGES.of("2 SPIN", 0, 9, v -> new AtomLadders().level(0, 0, v), v -> 0, BAD);
        // of what is refused there is no LEVEL to be told of
        EDGES.of("2 HEIGHT then", 0, 1000000, v -> levelTold(v, 1, 9, 0), v -> v, BAD);
        EDGES.of("2 SIDE then", 0, 1, v -> levelTold(1000000, v, 9, 1), v -> v, BAD);
        EDGES.of("2 SPIN then", 0, 9, v -> levelTold(1000000, 1, v, 2), v -> v, BAD);
    }

    private static void levelFull() {
        AtomLadders x = new AtomLadders();
        for (int k = 0; k < 8; k++) {
            DUE.is("2 bad ones have no number", x.level(-1, 0, 0), BAD);
            DUE.is("2 numbered as they come", x.level(10 * k, k % 2, k), k);
        }
        DUE.is("2 the ninth", x.level(0, 0, 0), FULL);
        DUE.is("2 eight", x.count(0), 8);
        DUE.is("2 the last stays", x.told(7, 0), 70);
        DUE.is("2 there is no ninth", x.told(8, 0), BAD);
        EDGES.of("2 HEIGHT ahead of FULL", 0, 1000000, v -> x.level(v, 0, 0), v -> FULL, BAD);
        EDGES.of("2 SIDE ahead of FULL", 0, 1, v -> x.level(0, v, 0), v -> FULL, BAD);
        EDGES.of("2 SPIN ahead of FULL", 0, 9, v -> x.level(0, 0, v), v -> FULL, BAD);
        for (int k = 0; k < 8; k++) {
            DUE.is("2 FACTOR 0 at first", x.factor(k, 0), 0);
        }
    }

    // ---- 3

    private static void height() {
        EDGES.of("3 the LEVEL", 0, 2, v -> ladder(3, 0).height(v, 5), v -> 100 * v, BAD);
        EDGES.of("3 the eighth LEVEL", 0, 7, v -> ladder(8, 0).height(v, 5), v -> 100 * v, BAD);
        EDGES.outside("3 no LEVEL", 0, -1, v -> new AtomLadders().height(v, 5), BAD);
        DUE.is("3 no LEVEL", new AtomLadders().height(0, 5), BAD);
        EDGES.of("3 HEIGHT", 0, 1000000, v -> ladder(2, 0).height(1, v), v -> 100, BAD);
        AtomLadders x = ladder(2, 0);
        EDGES.of("3 HEIGHT then", 0, 1000000, v -> x.height(1, v) < 0 ? -99 : x.told(1, 0), v -> v, -99);
        DUE.is("3 refused: what it was", x.told(1, 0), 500000);
        DUE.is("3 the other stays", x.told(0, 0), 0);
        DUE.is("3 the same one", x.height(1, 500000), 500000);
        DUE.is("3 refused ones are no ACTS", x.count(8), 4);
    }

    // ---- 4

    private static void told() {
        AtomLadders x = ladder(3, 0);
        EDGES.of("4 the LEVEL", 0, 2, v -> x.told(v, 0), v -> 100 * v, BAD);
        long[] first = {0, 0, 2, 0, 0};
        EDGES.of("4 what", 0, 4, v -> x.told(0, v), v -> first[v], BAD);
        for (int what = 0; what < 5; what++) {
            int asked = what;
            EDGES.outside("4 the LEVEL, what " + what, 0, 2, v -> x.told(v, asked), BAD);
            DUE.is("4 no LEVEL", new AtomLadders().told(0, what), BAD);
        }
        EDGES.of("4 the eighth LEVEL", 0, 7, v -> ladder(8, 0).told(v, 3), v -> v, BAD);
    }

    private static void toldParts() {
        AtomLadders x = ladder(8, 8);
        for (int k = 0; k < 8; k++) {
            DUE.is("4 a PART of its own", x.told(k, 3), k);
        }
        // from the top downwards: the least one becomes less, step by step
        for (int k = 7; k >= 1; k--) {
            x.give(k, k, k - 1);
            for (int j = 0; j < 8; j++) {
                DUE.is("4 the least LEVEL", x.told(j, 3), j >= k - 1 ? k - 1 : j);
            }
        }
        x.take(4);
        DUE.is("4 above what was taken", x.told(7, 3), 4);
        DUE.is("4 below what was taken", x.told(3, 3), 0);
        x.give(4, 0, 7);
        DUE.is("4 by another way", x.told(4, 3), 0);
        AtomLadders y = ladder(4, 3);
        y.give(0, 3, 2);
        y.give(1, 0, 1);
        DUE.is("4 two PARTS", y.told(3, 3), 2);
        y.give(2, 1, 2);
        DUE.is("4 two PARTS become one", y.told(3, 3), 0);
    }

    private static void toldGiven() {
        AtomLadders x = ladder(3, 16);
        DUE.is("4 none", x.told(0, 4), 0);
        for (int n = 0; n < 16; n++) {
            x.give(n, n % 2, 1 - n % 2);
            DUE.is("4 GIVEN as u or as l", x.told(0, 4), n + 1);
            DUE.is("4 GIVEN as u or as l", x.told(1, 4), n + 1);
        }
        DUE.is("4 another LEVEL", x.told(2, 4), 0);
        x.drop();
        DUE.is("4 a LINE that went", x.told(0, 4), 15);
    }

    // ---- 5

    private static long lineTold(int place, int end, int strength, int what) {
        AtomLadders x = new AtomLadders();
        x.line(place, end, strength);
        return x.about(0, what);
    }

    private static void lineNumbers() {
        EDGES.of("5 PLACE", 1, 1000000, v -> new AtomLadders().line(v, 0, 0), v -> 0, BAD);
        EDGES.of("5 END", 0, 1000, v -> new AtomLadders().line(1, v, 0), v -> 0, BAD);
        EDGES.of("5 STRENGTH", 0, 999, v -> new AtomLadders().line(1, 0, v), v -> 0, BAD);
        EDGES.of("5 PLACE then", 1, 1000000, v -> lineTold(v, 1000, 999, 0), v -> v, BAD);
        EDGES.of("5 END then", 0, 1000, v -> lineTold(1000000, v, 999, 1), v -> v, BAD);
        EDGES.of("5 STRENGTH then", 0, 999, v -> lineTold(1000000, 1000, v, 2), v -> v, BAD);
    }

    private static void lineFull() {
        AtomLadders x = new AtomLadders();
        for (int n = 0; n < 16; n++) {
            DUE.is("5 bad ones have no number", x.line(0, 0, 0), BAD);
            DUE.is("5 numbered as they come", x.line(10 + n, n, n), n);
            DUE.is("5 PLATE 0 at first", x.about(n, 5), 0);
            DUE.is("5 GIVEN to nothing at first", x.about(n, 3), NONE);
        }
        DUE.is("5 the seventeenth", x.line(1, 0, 0), FULL);
        DUE.is("5 sixteen", x.count(1), 16);
        DUE.is("5 the last stays", x.about(15, 0), 25);
        DUE.is("5 there is no seventeenth", x.about(16, 0), BAD);
        EDGES.of("5 PLACE ahead of FULL", 1, 1000000, v -> x.line(v, 0, 0), v -> FULL, BAD);
        EDGES.of("5 END ahead of FULL", 0, 1000, v -> x.line(1, v, 0), v -> FULL, BAD);
        EDGES.of("5 STRENGTH ahead of FULL", 0, 999, v -> x.line(1, 0, v), v -> FULL, BAD);
    }

    // ---- 6

    private static void drop() {
        AtomLadders x = ladder(2, 16);
        for (int n = 15; n >= 0; n--) {
            DUE.is("6 the latest", x.drop(), n);
            DUE.is("6 as many are left", x.count(1), n);
        }
        DUE.is("6 none is left", x.drop(), NONE);
        DUE.is("6 none is left", x.count(1), 0);
        DUE.is("6 a new one has its number", x.line(1, 0, 0), 0);
        AtomLadders y = ladder(2, 16);
        DUE.is("6 full", y.line(1, 0, 0), FULL);
        y.give(15, 1, 0);
        y.plate(15, 3);
        y.drop();
        DUE.is("6 there is room then", y.line(7, 8, 9), 15);
        int[] fresh = {7, 8, 9, NONE, NONE, 0};
        for (int what = 0; what < 6; what++) {
            DUE.is("6 nothing is left of the one that went", y.about(15, what), fresh[what]);
        }
        DUE.is("6 full again", y.line(1, 0, 0), FULL);
    }

    private static void dropInMeeting() {
        for (int side = 0; side < 2; side++) {
            AtomLadders x = ladder(2, 3);
            x.plate(2, 1);
            x.give(2, 1, 0);
            DUE.is("6 a MEETING", side == 0 ? x.meet(2, 0) : x.meet(0, 2), 0);
            DUE.is("6 it is in a MEETING", x.drop(), STATE);
            DUE.is("6 it stays", x.count(1), 3);
            DUE.is("6 it stays GIVEN", x.about(2, 3), 1);
            DUE.is("6 ACTS stay", x.count(8), 1);
            x.line(9, 9, 9);
            DUE.is("6 one behind it", x.drop(), 3);
            DUE.is("6 then it is the latest again", x.drop(), STATE);
        }
        AtomLadders y = ladder(0, 3);
        y.plate(0, 1);
        y.meet(0, 1);
        DUE.is("6 others are in a MEETING", y.drop(), 2);
        DUE.is("6 now it is one of them", y.drop(), STATE);
    }

    private static void dropForgets() {
        AtomLadders x = ladder(2, 2);
        x.settle();
        x.height(0, 7);
        DUE.is("6 ACTS", x.count(8), 2);
        DUE.is("6 drop", x.drop(), 1);
        DUE.is("6 ACTS are none then", x.count(8), 0);
        DUE.is("6 nothing can be undone", x.undo(), NONE);
        DUE.is("6 what was done stays", x.told(0, 0), 7);
        x.drop();
        x.settle();
        DUE.is("6 none is left", x.drop(), NONE);
        DUE.is("6 refused: ACTS stay", x.count(8), 1);
    }

    // ---- 7

    private static void about() {
        AtomLadders x = ladder(2, 3);
        x.give(2, 1, 0);
        x.plate(2, 3);
        EDGES.of("7 the LINE", 0, 2, v -> x.about(v, 2), v -> v, BAD);
        int[] last = {100, 0, 2, 1, 0, 3};
        EDGES.of("7 what", 0, 5, v -> x.about(2, v), v -> last[v], BAD);
        for (int what = 0; what < 6; what++) {
            int asked = what;
            EDGES.outside("7 the LINE, what " + what, 0, 2, v -> x.about(v, asked), BAD);
            DUE.is("7 no LINE", new AtomLadders().about(0, what), BAD);
        }
        EDGES.of("7 the sixteenth LINE", 0, 15, v -> ladder(0, 16).about(v, 2), v -> v, BAD);
        DUE.is("7 u: NONE", x.about(1, 3), NONE);
        DUE.is("7 l: NONE", x.about(1, 4), NONE);
    }

    // ---- 8

    private static void allowedNumbers() {
        AtomLadders x = ladder(2, 0);
        EDGES.of("8 u", 0, 1, v -> x.allowed(v, 0), v -> v, BAD);
        EDGES.of("8 l", 0, 1, v -> x.allowed(0, v), v -> v, BAD);
        EDGES.of("8 the eighth", 0, 7, v -> ladder(8, 0).allowed(v, 7), v -> (v + 1) % 2, BAD);
        DUE.is("8 no LEVEL", new AtomLadders().allowed(0, 0), BAD);
        DUE.is("8 the one is the other one", x.allowed(1, 1), 0);
    }

    /** Each SPIN with each, on both SIDES. */
    private static void allowedRule() {
        for (int spin = 0; spin <= 9; spin++) {
            for (int other = 0; other <= 9; other++) {
                AtomLadders x = new AtomLadders();
                x.level(0, 0, spin);
                x.level(0, 1, other);
                x.level(0, 0, other);
                boolean good = spin == other && spin != 0 || spin == other + 2 || other == spin + 2;
                DUE.is("8 SPINS " + spin + ", " + other, x.allowed(0, 1), good ? 1 : 0);
                DUE.is("8 SPINS " + other + ", " + spin, x.allowed(1, 0), good ? 1 : 0);
                DUE.is("8 SIDES alike " + spin + ", " + other, x.allowed(0, 2), 0);
            }
        }
    }

    // ---- 9, 10

    private static void fitsNumbers() {
        AtomLadders x = ladder(2, 3);
        EDGES.of("9 the LINE", 0, 2, x::fits, v -> 1, BAD);
        EDGES.of("9 the sixteenth", 0, 15, v -> ladder(2, 16).fits(v), v -> 1, BAD);
        DUE.is("9 no LINE", new AtomLadders().fits(0), BAD);
        DUE.is("9 no LEVELS", ladder(0, 1).fits(0), 0);
        EDGES.of("10 the LINE", 0, 2, v -> x.fit(v, 0), v -> 8, BAD);
        EDGES.index("10 i", 1, v -> x.fit(0, v), BAD, NONE);
        DUE.is("10 no LINE", new AtomLadders().fit(0, 0), BAD);
        DUE.is("10 no LINE, ahead of NONE", x.fit(3, 9), BAD);
        EDGES.index("10 FITS none", 0, v -> ladder(0, 1).fit(0, v), BAD, NONE);
    }

    /** How many STEPS a LINE of a PLACE and an END FITS, with two LEVELS one of which is as much above the other. */
    private static int fitsOf(int gap, int place, int end) {
        AtomLadders x = new AtomLadders();
        x.level(500000 - gap / 2, 0, 2);
        x.level(500000 - gap / 2 + gap, 1, 2);
        x.line(place, end, 0);
        return x.fits(0);
    }

    private static void fitsEnds() {
        for (int end : new int[] {0, 1, 7, 999, 1000}) {
            DUE.is("9 just " + end + " more", fitsOf(5000 + end, 5000, end), 1);
            DUE.is("9 more than " + end, fitsOf(5000 + end + 1, 5000, end), 0);
            DUE.is("9 just " + end + " less", fitsOf(5000 - end, 5000, end), 1);
            DUE.is("9 less than " + end, fitsOf(5000 - end - 1, 5000, end), 0);
            DUE.is("9 the greatest PLACE", fitsOf(1000000 - end, 1000000, end), 1);
            DUE.is("9 the greatest PLACE", fitsOf(1000000 - end - 1, 1000000, end), 0);
        }
    }

    /** PLACE less END may be below 0: then a STEP downwards FITS too. */
    private static void fitsBelow() {
        DUE.is("9 one HEIGHT, both ways", fitsOf(0, 1, 1), 2);
        DUE.is("9 one HEIGHT, just not", fitsOf(0, 1, 0), 0);
        DUE.is("9 both ways", fitsOf(999, 1, 1000), 2);
        DUE.is("9 just not both ways", fitsOf(1000, 1, 1000), 1);
        DUE.is("9 just", fitsOf(1001, 1, 1000), 1);
        DUE.is("9 just not", fitsOf(1002, 1, 1000), 0);
    }

    private static void fitsAll() {
        AtomLadders x = new AtomLadders();
        for (int k = 0; k < 8; k++) {
            x.level(1000, k % 2, 2);
        }
        x.line(1, 1, 0);
        DUE.is("9 as many as there can be", x.fits(0), 32);
        int i = 0;
        for (int u = 0; u < 8; u++) {
            for (int l = 0; l < 8; l++) {
                if (u % 2 != l % 2) {
                    DUE.is("10 by u, then l", x.fit(0, i), 8 * u + l);
                    i++;
                }
            }
        }
        EDGES.index("10 i", 32, v -> x.fit(0, v), BAD, NONE);
        DUE.is("10 the first", x.fit(0, 0), 1);
        DUE.is("10 the last", x.fit(0, 31), 62);
    }

    // ---- 11

    private static long given(AtomLadders x, int n, int u, int l) {
        long answer = x.give(n, u, l);
        return answer == 1 ? 100 + 8 * x.about(n, 3) + x.about(n, 4) : answer;
    }

    private static void giveNumbers() {
        EDGES.of("11 the LINE", 0, 2, v -> given(ladder(2, 3), v, 1, 0), v -> 108, BAD);
        EDGES.of("11 the sixteenth", 0, 15, v -> given(ladder(2, 16), v, 0, 1), v -> 101, BAD);
        EDGES.of("11 u", 0, 7, v -> given(ladder(8, 1), 0, v, v ^ 1), v -> 100 + 8 * v + (v ^ 1), BAD);
        EDGES.outside("11 u", 0, 1, v -> given(ladder(2, 1), 0, v, 0), BAD);
        EDGES.of("11 l", 0, 7, v -> given(ladder(8, 1), 0, v ^ 1, v), v -> 100 + 8 * (v ^ 1) + v, BAD);
        EDGES.outside("11 l", 0, 1, v -> given(ladder(2, 1), 0, 0, v), BAD);
        DUE.is("11 no LINE", ladder(2, 0).give(0, 1, 0), BAD);
        DUE.is("11 no LEVELS", ladder(0, 1).give(0, 0, 0), BAD);
    }

    private static void giveStates() {
        AtomLadders x = ladder(3, 2);
        DUE.is("11 one and the same", x.give(0, 1, 1), STATE);
        DUE.is("11 one SIDE", x.give(0, 0, 2), STATE);
        DUE.is("11 GIVEN to nothing still", x.count(2), 0);
        DUE.is("11 BAD ahead of STATE", x.give(2, 0, 2), BAD);
        DUE.is("11 no ACTS", x.count(8), 0);
        DUE.is("11 it need not FIT", x.give(0, 0, 1), 1);
        DUE.is("11 refused", x.give(0, 0, 2), STATE);
        DUE.is("11 what it was GIVEN to stays", x.about(0, 4), 1);
        DUE.is("11 whatever it was GIVEN to", x.give(0, 2, 1), 1);
        DUE.is("11 u", x.about(0, 3), 2);
        DUE.is("11 the same once more", x.give(0, 2, 1), 1);
        DUE.is("11 each an ACT", x.count(8), 3);
        DUE.is("11 another LINE to the same STEP", x.give(1, 2, 1), 1);
        DUE.is("11 two", x.count(2), 2);
    }

    // ---- 12

    private static void take() {
        AtomLadders x = ladder(2, 3);
        for (int n = 0; n < 3; n++) {
            x.give(n, 1, 0);
        }
        EDGES.outside("12 the LINE", 0, 2, x::take, BAD);
        DUE.is("12 refused: all are GIVEN", x.count(2), 3);
        DUE.is("12 refused: no ACTS", x.count(8), 3);
        DUE.is("12 the last", x.take(2), 1);
        DUE.is("12 it was not GIVEN", x.take(2), STATE);
        DUE.is("12 the first", x.take(0), 1);
        DUE.is("12 u", x.about(0, 3), NONE);
        DUE.is("12 l", x.about(0, 4), NONE);
        DUE.is("12 the one between", x.about(1, 3), 1);
        DUE.is("12 STATE is no ACT", x.count(8), 5);
        DUE.is("12 no LINE", new AtomLadders().take(0), BAD);
        DUE.is("12 never GIVEN", ladder(2, 1).take(0), STATE);
    }

    // ---- 13

    private static void giveAllNone() {
        DUE.is("13 nothing there", new AtomLadders().giveAll(), 0);
        DUE.is("13 no LINES", ladder(8, 0).giveAll(), 0);
        DUE.is("13 no LEVELS", ladder(0, 16).giveAll(), 0);
        AtomLadders x = new AtomLadders();
        x.giveAll();
        DUE.is("13 an ACT all the same", x.count(8), 1);
    }

    /** LINES that FIT no STEP, just one, two. */
    private static void giveAllCounts() {
        AtomLadders x = ladder(3, 0);
        x.line(100, 0, 0);
        x.line(99, 0, 0);
        x.line(99, 1, 0);
        x.line(50, 150, 0);
        x.height(2, 201);
        // STEPS up: (1, 0) of 100, (2, 1) of 101
        DUE.is("13 two are GIVEN", x.giveAll(), 2);
        DUE.is("13 FITS one", x.about(0, 3), 1);
        DUE.is("13 FITS none", x.about(1, 3), NONE);
        DUE.is("13 FITS one, just", x.about(2, 3), 1);
        DUE.is("13 FITS several", x.about(3, 3), NONE);
        DUE.is("13 FITS three", x.fits(3), 3);
        x.line(101, 1, 0);
        DUE.is("13 FITS two", x.fits(4), 2);
        x.line(102, 1, 0);
        x.give(0, 0, 1);
        DUE.is("13 the new one", x.giveAll(), 1);
        DUE.is("13 FITS two", x.about(4, 3), NONE);
        DUE.is("13 FITS one", x.about(5, 4), 1);
        DUE.is("13 GIVEN already, to what it does not FIT", x.about(0, 3), 0);
        DUE.is("13 none more", x.giveAll(), 0);
    }

    private static void giveAllMost() {
        AtomLadders x = ladder(2, 16);
        DUE.is("13 all sixteen", x.giveAll(), 16);
        DUE.is("13 all sixteen", x.count(2), 16);
        DUE.is("13 one ACT", x.count(8), 1);
        DUE.is("13 undone at once", x.undo(), 0);
        DUE.is("13 undone at once", x.count(2), 0);
    }
}
