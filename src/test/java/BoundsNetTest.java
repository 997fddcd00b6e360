/** The boundary cases of promises 14 to 19, sentence by sentence. */
public final class BoundsNetTest {
    private static final Due DUE = new Due("BoundsNetTest");
    private static final Edges EDGES = new Edges(DUE);
    private static final int STATE = -2;
    private static final int APART_BAD = -10000000;
    private static final int APART_OPEN = -10000002;
    private static final int APART_NONE = -10000004;
    private static final long FRACTION_BAD = -1000000000000L;
    private static final long FRACTION_STATE = -1000000000002L;

    public static void main(String[] args) {
        closesNothing();
        closesJust();
        closesRings();
        closesAnyHeights();
        closesSixteen();
        closesDropped();
        barredNothing();
        barredTwelve();
        barredNumbers();
        barredFewest();
        apartNumbers();
        apartOrder();
        apartEnds();
        best();
        bestLowest();
        bestGreatest();
        rest();
        restSigns();
        settleNothing();
        settleHalves();
        settleHeld();
        settleParts();
        DUE.end();
    }

    private static AtomLadders levels(int n) {
        AtomLadders x = new AtomLadders();
        for (int k = 0; k < n; k++) {
            x.level(1000 * k, k % 2, 2);
        }
        return x;
    }

    private static void gave(AtomLadders x, int place, int end, int u, int l) {
        DUE.is("GIVEN", x.give(x.line(place, end, 0), u, l), 1);
    }

    // ---- 14

    private static void closesNothing() {
        DUE.is("14 a new object", new AtomLadders().closes(), 1);
        AtomLadders x = levels(2);
        x.line(1, 0, 0);
        x.line(1000000, 0, 0);
        DUE.is("14 nothing GIVEN", x.closes(), 1);
        x.give(0, 1, 0);
        DUE.is("14 one alone, whatever the HEIGHTS", x.closes(), 1);
        x.give(1, 1, 0);
        DUE.is("14 two that are apart", x.closes(), 0);
        x.take(1);
        DUE.is("14 taken", x.closes(), 1);
    }

    private static int closesWith(int place, int end, int other, int otherEnd) {
        AtomLadders x = levels(2);
        gave(x, place, end, 1, 0);
        gave(x, other, otherEnd, 1, 0);
        return x.closes();
    }

    private static void closesJust() {
        for (int end : new int[] {0, 1, 999, 1000}) {
            DUE.is("14 ends meet", closesWith(5000, end, 5003 + end, 3), 1);
            DUE.is("14 ends do not meet", closesWith(5000, end, 5004 + end, 3), 0);
            DUE.is("14 ends meet, the other way round", closesWith(5003 + end, 3, 5000, end), 1);
            DUE.is("14 ends do not meet, the other way round", closesWith(5004 + end, 3, 5000, end), 0);
        }
        DUE.is("14 no END at all", closesWith(7, 0, 7, 0), 1);
        DUE.is("14 no END at all", closesWith(7, 0, 8, 0), 0);
        DUE.is("14 the greatest", closesWith(1000000, 1000, 998000, 1000), 1);
        DUE.is("14 the greatest", closesWith(1000000, 1000, 997999, 1000), 0);
    }

    /** Up by u and up by l: both can be only if 0 is within both. */
    private static void closesRings() {
        for (int end = 9; end <= 11; end++) {
            AtomLadders x = levels(2);
            gave(x, 10, end, 1, 0);
            gave(x, 10, 10, 0, 1);
            DUE.is("14 up both ways, END " + end, x.closes(), end >= 10 ? 1 : 0);
        }
        for (int place = 32; place <= 48; place++) {
            AtomLadders x = levels(4);
            gave(x, 10, 1, 1, 0);
            gave(x, 10, 2, 2, 1);
            gave(x, 20, 3, 3, 2);
            gave(x, place, 1, 3, 0);
            DUE.is("14 a ring of four, PLACE " + place, x.closes(), place >= 33 && place <= 47 ? 1 : 0);
        }
    }

    private static void closesAnyHeights() {
        AtomLadders x = levels(8);
        for (int k = 1; k < 8; k++) {
            gave(x, 1000000, 0, k, k - 1);
        }
        DUE.is("14 TRUE heights above 1000000", x.closes(), 1);
        gave(x, 1000000, 1000, 7, 0);
        DUE.is("14 a ring far too long", x.closes(), 0);
        AtomLadders y = levels(8);
        for (int k = 1; k < 8; k++) {
            gave(y, 1000000, 0, k - 1, k);
        }
        DUE.is("14 TRUE heights below 0", y.closes(), 1);
        gave(y, 1, 0, 7, 0);
        DUE.is("14 a ring far too long", y.closes(), 0);
    }

    private static void closesSixteen() {
        AtomLadders x = levels(2);
        for (int n = 0; n < 15; n++) {
            gave(x, 50, 0, 1, 0);
        }
        x.line(51, 0, 0);
        DUE.is("14 fifteen are GIVEN", x.closes(), 1);
        x.give(15, 1, 0);
        DUE.is("14 the sixteenth is GIVEN", x.closes(), 0);
        DUE.is("16 the sixteenth is GIVEN", x.apart(1, 0, true), APART_OPEN);
        x.give(15, 0, 1);
        DUE.is("14 the other way", x.closes(), 0);
        x.take(15);
        DUE.is("16 fifteen are GIVEN", x.apart(1, 0, true), 50);
    }

    /** A LINE that went bars nothing, ties nothing, counts nothing. */
    private static void closesDropped() {
        AtomLadders x = levels(3);
        gave(x, 50, 0, 1, 0);
        gave(x, 51, 0, 1, 0);
        x.drop();
        DUE.is("14 the one that barred it went", x.closes(), 1);
        DUE.is("15 the one that barred it went", x.barred(), 0);
        DUE.is("17 it has no square", x.best(1, 0), 50);
        gave(x, 50, 0, 2, 1);
        DUE.is("16 tied", x.apart(2, 0, true), 100);
        x.drop();
        DUE.is("16 not tied", x.apart(2, 0, true), APART_NONE);
        DUE.is("17 not tied", x.best(2, 0), 0);
        DUE.is("14 all is well", x.closes(), 1);
    }

    // ---- 15

    private static void barredNothing() {
        DUE.is("15 a new object", new AtomLadders().barred(), 0);
        AtomLadders x = levels(2);
        x.line(5, 0, 0);
        DUE.is("15 nothing GIVEN", x.barred(), 0);
        x.give(0, 1, 0);
        DUE.is("15 it can CLOSE", x.barred(), 0);
    }

    private static void barredTwelve() {
        AtomLadders x = levels(2);
        for (int n = 0; n < 16; n++) {
            x.line(10, 0, 0);
        }
        for (int n = 0; n < 12; n++) {
            x.give(n, 1, 0);
        }
        DUE.is("15 twelve LINES are GIVEN", x.barred(), 0);
        x.give(15, 1, 0);
        DUE.is("15 thirteen, though it can CLOSE", x.barred(), STATE);
        x.take(3);
        DUE.is("15 twelve again", x.barred(), 0);
        for (int n = 0; n < 16; n++) {
            x.give(n, 1, 0);
        }
        DUE.is("15 sixteen", x.barred(), STATE);
        AtomLadders y = levels(2);
        for (int n = 0; n < 12; n++) {
            gave(y, 10 + n, 0, 1, 0);
        }
        DUE.is("15 twelve, one of which may stay", y.barred(), 0x7FF);
        gave(y, 10, 0, 1, 0);
        DUE.is("15 thirteen", y.barred(), STATE);
        y.take(12);
        y.take(11);
        DUE.is("15 eleven", y.barred(), 0x3FF);
    }

    /** The sum is of LINES' numbers, whatever else is not GIVEN. */
    private static void barredNumbers() {
        AtomLadders x = levels(2);
        for (int n = 0; n < 16; n++) {
            x.line(10 + n, 0, 0);
        }
        x.give(14, 1, 0);
        x.give(15, 1, 0);
        DUE.is("15 the least sum", x.barred(), 1 << 14);
        x.give(0, 1, 0);
        DUE.is("15 the least sum", x.barred(), (1 << 14) + 1);
        x.drop();
        x.line(24, 0, 0);
        x.give(15, 1, 0);
        DUE.is("15 the first one", x.barred(), 1);
        x.drop();
        x.line(10, 0, 0);
        x.give(15, 1, 0);
        x.give(14, 0, 1);
        DUE.is("15 the fourteenth", x.barred(), 1 << 14);
        x.drop();
        x.line(1000000, 0, 0);
        x.give(15, 1, 0);
        x.give(13, 1, 0);
        x.take(14);
        x.give(12, 1, 0);
        x.give(0, 1, 0);
        DUE.is("15 all but the last", x.barred(), (1 << 13) + (1 << 12) + 1);
    }

    private static void barredFewest() {
        // 0 and 1 agree, 2 and 3 and 4 agree: fewer are out, though their sum is not the least of all
        AtomLadders x = levels(2);
        for (int place : new int[] {20, 20, 10, 10, 10}) {
            gave(x, place, 0, 1, 0);
        }
        DUE.is("15 two are out", x.barred(), 3);
        x.take(4);
        DUE.is("15 two and two: the least sum", x.barred(), 3);
        x.take(1);
        DUE.is("15 one of three", x.barred(), 1);
        x.give(1, 1, 0);
        x.give(4, 1, 0);
        x.drop();
        gave(x, 20, 0, 1, 0);
        DUE.is("15 the later ones, for they are fewer", x.barred(), 4 + 8);
    }

    // ---- 16

    private static AtomLadders pair() {
        AtomLadders x = levels(3);
        gave(x, 10, 3, 1, 0);
        return x;
    }

    private static void apartNumbers() {
        for (boolean high : new boolean[] {false, true}) {
            EDGES.outside("16 u", 0, 2, v -> pair().apart(v, 0, high), APART_BAD);
            EDGES.outside("16 l", 0, 2, v -> pair().apart(0, v, high), APART_BAD);
            for (int k = 0; k < 3; k++) {
                DUE.is("16 one and the same", pair().apart(k, k, high), APART_BAD);
            }
            DUE.is("16 no LEVELS", new AtomLadders().apart(0, 0, high), APART_BAD);
            DUE.is("16 no LEVELS", new AtomLadders().apart(0, 1, high), APART_BAD);
            DUE.is("16 the last", pair().apart(2, 0, high), APART_NONE);
            DUE.is("16 the last", pair().apart(0, 2, high), APART_NONE);
        }
        DUE.is("16 the greatest", pair().apart(1, 0, true), 13);
        DUE.is("16 the least", pair().apart(1, 0, false), 7);
        DUE.is("16 the greatest, from above", pair().apart(0, 1, true), -7);
        DUE.is("16 the least, from above", pair().apart(0, 1, false), -13);
    }

    private static void apartOrder() {
        AtomLadders x = pair();
        gave(x, 17, 3, 1, 0);
        DUE.is("16 it can not CLOSE", x.apart(1, 0, true), APART_OPEN);
        DUE.is("16 ahead of not of one PART", x.apart(2, 0, true), APART_OPEN);
        DUE.is("16 behind BAD", x.apart(2, 2, true), APART_BAD);
        DUE.is("16 behind BAD", x.apart(3, 0, true), APART_BAD);
        x.take(1);
        gave(x, 16, 3, 1, 0);
        DUE.is("16 it can, just", x.apart(1, 0, true), 13);
        DUE.is("16 it can, just", x.apart(1, 0, false), 13);
        x.take(0);
        x.take(2);
        DUE.is("16 nothing GIVEN", x.apart(1, 0, true), APART_NONE);
    }

    private static void apartEnds() {
        AtomLadders x = levels(8);
        for (int k = 1; k < 8; k++) {
            gave(x, 1000000, 1000, k, k - 1);
        }
        DUE.is("16 as far as can be", x.apart(7, 0, true), 7007000);
        DUE.is("16 as far as can be, the least", x.apart(7, 0, false), 6993000);
        DUE.is("16 as far as can be, downwards", x.apart(0, 7, false), -7007000);
        AtomLadders y = levels(3);
        gave(y, 1, 1000, 1, 0);
        DUE.is("16 below 0 too", y.apart(1, 0, false), -999);
        DUE.is("16 below 0 too", y.apart(1, 0, true), 1001);
        gave(y, 1, 0, 1, 0);
        DUE.is("16 no END", y.apart(1, 0, false), 1);
        DUE.is("16 no END", y.apart(1, 0, true), 1);
        gave(y, 1000, 1000, 2, 1);
        gave(y, 1000, 1000, 1, 2);
        DUE.is("16 both ways", y.apart(2, 1, false), 0);
        DUE.is("16 both ways", y.apart(2, 1, true), 0);
        DUE.is("16 through the one between", y.apart(2, 0, true), 1);
    }

    // ---- 17

    private static void best() {
        AtomLadders x = pair();
        long[] due = {0, 10, 0};
        EDGES.of("17 the LEVEL", 0, 2, v -> x.best(v, 0), v -> due[v], FRACTION_BAD);
        EDGES.outside("17 the LEVEL", 0, 2, v -> x.best(v, 1), FRACTION_BAD);
        long[] fraction = {10, 1};
        EDGES.of("17 what", 0, 1, v -> x.best(1, v), v -> fraction[v], FRACTION_BAD);
        DUE.is("17 no LEVELS", new AtomLadders().best(0, 0), FRACTION_BAD);
        for (int k = 0; k < 8; k++) {
            DUE.is("17 nothing GIVEN", levels(8).best(k, 0), 0);
            DUE.is("17 nothing GIVEN", levels(8).best(k, 1), 1);
        }
    }

    private static void bestLowest() {
        AtomLadders x = levels(2);
        gave(x, 10, 0, 0, 1);
        gave(x, 11, 0, 0, 1);
        DUE.is("17 the numerator may be below 0", x.best(1, 0), -21);
        DUE.is("17 the denominator is above 0", x.best(1, 1), 2);
        gave(x, 21, 0, 1, 0);
        DUE.is("17 0 over 1", x.best(1, 0), 0);
        DUE.is("17 0 over 1", x.best(1, 1), 1);
        for (int n = 3; n < 16; n++) {
            gave(x, 1 + n % 2, 0, 1, 0);
        }
        // 7 of 2, 6 of 1, 21 less 10 less 11: 20 over 16
        DUE.is("17 in lowest terms", x.best(1, 0), 5);
        DUE.is("17 in lowest terms", x.best(1, 1), 4);
        AtomLadders y = levels(4);
        gave(y, 10, 0, 3, 2);
        gave(y, 5, 0, 3, 2);
        DUE.is("17 0 for the least LEVEL of each PART", y.best(2, 0), 0);
        DUE.is("17 of each PART", y.best(3, 0), 15);
        DUE.is("17 of each PART", y.best(3, 1), 2);
        DUE.is("17 another PART is whole", y.best(1, 1), 1);
    }

    private static void bestGreatest() {
        AtomLadders x = levels(8);
        for (int k = 1; k < 8; k++) {
            gave(x, 1000000, 1000, k, k - 1);
            gave(x, 999999, 1000, k, k - 1);
        }
        gave(x, 1000000, 1000, 7, 6);
        gave(x, 1000000, 1000, 7, 6);
        DUE.is("17 far above 1000000", x.best(6, 0), 5999997);
        DUE.is("17 far above 1000000", x.best(6, 1), 1);
        DUE.is("17 far above 1000000", x.best(7, 0), 4 * 5999997L + 3999999);
        DUE.is("17 far above 1000000", x.best(7, 1), 4);
        AtomLadders y = levels(8);
        for (int k = 1; k < 8; k++) {
            gave(y, 1000000, 1000, k - 1, k);
        }
        DUE.is("17 far below 0", y.best(7, 0), -7000000);
    }

    // ---- 18

    private static void rest() {
        AtomLadders x = levels(2);
        gave(x, 10, 0, 1, 0);
        gave(x, 13, 0, 1, 0);
        x.line(5, 0, 0);
        long[] due = {-3, 3};
        for (int n = 0; n < 2; n++) {
            DUE.is("18 the LINE " + n, x.rest(n, 0), due[n]);
            DUE.is("18 the LINE " + n, x.rest(n, 1), 2);
        }
        for (int what = 0; what < 2; what++) {
            int asked = what;
            DUE.is("18 it is not GIVEN", x.rest(2, what), FRACTION_STATE);
            EDGES.outside("18 the LINE", 0, 2, v -> x.rest(v, asked), FRACTION_BAD);
            DUE.is("18 no LINES", new AtomLadders().rest(0, what), FRACTION_BAD);
        }
        EDGES.of("18 what", 0, 1, v -> x.rest(1, v), v -> v == 0 ? 3 : 2, FRACTION_BAD);
        EDGES.outside("18 what, BAD ahead of STATE", 0, 1, v -> x.rest(2, v), FRACTION_BAD);
        x.take(1);
        DUE.is("18 taken", x.rest(1, 0), FRACTION_STATE);
        DUE.is("18 nothing is left", x.rest(0, 0), 0);
        DUE.is("18 nothing is left", x.rest(0, 1), 1);
    }

    private static void restSigns() {
        AtomLadders x = levels(2);
        gave(x, 1000000, 0, 1, 0);
        gave(x, 1000000, 0, 0, 1);
        DUE.is("18 the greatest", x.rest(0, 0), 1000000);
        DUE.is("18 the greatest", x.rest(1, 0), 1000000);
        gave(x, 1, 0, 0, 1);
        // BEST of 1: (1000000 - 1000000 - 1) / 3
        DUE.is("18 u above", x.rest(0, 0), 3000001);
        DUE.is("18 u above", x.rest(0, 1), 3);
        DUE.is("18 u below", x.rest(2, 0), 2);
        DUE.is("18 u below", x.rest(2, 1), 3);
        AtomLadders y = levels(2);
        gave(y, 1, 0, 1, 0);
        gave(y, 1000000, 0, 1, 0);
        DUE.is("18 below 0", y.rest(0, 0), -999999);
        DUE.is("18 above 0", y.rest(1, 0), 999999);
        DUE.is("18 halves", y.rest(0, 1), 2);
    }

    // ---- 19

    private static void settleNothing() {
        AtomLadders x = new AtomLadders();
        DUE.is("19 no LEVELS", x.settle(), 0);
        DUE.is("19 an ACT all the same", x.count(8), 1);
        AtomLadders y = levels(8);
        DUE.is("19 nothing GIVEN", y.settle(), 0);
        for (int k = 0; k < 8; k++) {
            DUE.is("19 all stay", y.told(k, 0), 1000 * k);
        }
    }

    /** LINES of one STEP with a sum of PLACES: BEST is that sum over how many. */
    private static int settled(int base, boolean up, int... places) {
        AtomLadders x = levels(2);
        x.height(0, base);
        for (int place : places) {
            gave(x, place, 0, up ? 1 : 0, up ? 0 : 1);
        }
        x.settle();
        DUE.is("19 the least LEVEL stays", x.told(0, 0), base);
        return x.told(1, 0);
    }

    private static void settleHalves() {
        DUE.is("19 a half: the greater one", settled(500, true, 10, 11), 511);
        DUE.is("19 a half below: the greater one", settled(500, false, 10, 11), 490);
        DUE.is("19 a third", settled(500, true, 10, 10, 11), 510);
        DUE.is("19 two thirds", settled(500, true, 10, 11, 11), 511);
        DUE.is("19 a third below", settled(500, false, 10, 10, 11), 490);
        DUE.is("19 two thirds below", settled(500, false, 10, 11, 11), 489);
        DUE.is("19 a whole number", settled(500, true, 10, 12), 511);
        DUE.is("19 a quarter", settled(500, true, 10, 10, 10, 11), 510);
        DUE.is("19 three quarters", settled(500, true, 10, 11, 11, 11), 511);
    }

    private static void settleHeld() {
        DUE.is("19 just 0", settled(10, false, 10), 0);
        DUE.is("19 held to 0", settled(9, false, 10), 0);
        DUE.is("19 a half below 0 is 0", settled(10, false, 10, 11), 0);
        DUE.is("19 1", settled(11, false, 10), 1);
        DUE.is("19 far below 0", settled(0, false, 1000000), 0);
        DUE.is("19 just 1000000", settled(999990, true, 10), 1000000);
        DUE.is("19 held to 1000000", settled(999991, true, 10), 1000000);
        DUE.is("19 a half above", settled(999990, true, 9, 10), 1000000);
        DUE.is("19 999999", settled(999989, true, 10), 999999);
        DUE.is("19 far above", settled(1000000, true, 1000000), 1000000);
        AtomLadders x = levels(3);
        gave(x, 10, 0, 1, 0);
        gave(x, 20, 0, 2, 1);
        x.height(0, 999995);
        x.height(1, 1000000);
        x.height(2, 1000000);
        DUE.is("19 those held are no others", x.settle(), 0);
        x.height(2, 999999);
        DUE.is("19 one became another", x.settle(), 1);
        DUE.is("19 from the least LEVEL, not from one that is held", x.told(2, 0), 1000000);
    }

    private static void settleParts() {
        AtomLadders x = levels(8);
        for (int k = 1; k < 8; k += 2) {
            gave(x, 7, 0, k, k - 1);
        }
        DUE.is("19 each PART by its least LEVEL", x.settle(), 4);
        for (int k = 0; k < 8; k++) {
            DUE.is("19 HEIGHT " + k, x.told(k, 0), k % 2 == 0 ? 1000 * k : 1000 * (k - 1) + 7);
        }
        DUE.is("19 again", x.settle(), 0);
        AtomLadders y = levels(8);
        for (int k = 1; k < 8; k++) {
            gave(y, 1, 0, k, k - 1);
        }
        DUE.is("19 all but the least", y.settle(), 7);
        DUE.is("19 the last", y.told(7, 0), 7);
    }
}
