/** Promises 14 to 19: closes, barred, apart, best, rest, settle. */
public final class NetTest {
    private static final Due DUE = new Due("NetTest");
    private static final long FRACTION_BAD = -1000000000000L;
    private static final long FRACTION_STATE = -1000000000002L;

    public static void main(String[] args) {
        closes();
        barred();
        barredLimit();
        apart();
        best();
        rest();
        settle();
        greatest();
        DUE.end();
    }

    /** Levels 0, 2 of side 0 and 1, 3 of side 1, all of spin 2: a square of steps. */
    private static AtomLadders square() {
        AtomLadders x = new AtomLadders();
        for (int k = 0; k < 4; k++) {
            x.level(1000 * k, k % 2, 2);
        }
        return x;
    }

    private static void gave(AtomLadders x, int place, int end, int u, int l) {
        DUE.is("given", x.give(x.line(place, end, 0), u, l), 1);
    }

    private static void closes() {
        AtomLadders x = square();
        DUE.is("14 nothing given", x.closes(), 1);
        gave(x, 10, 1, 1, 0);
        gave(x, 10, 1, 2, 1);
        gave(x, 10, 1, 3, 2);
        DUE.is("14 a chain", x.closes(), 1);
        gave(x, 34, 1, 3, 0);
        DUE.is("14 just", x.closes(), 1);
        x.take(3);
        gave(x, 35, 1, 3, 0);
        DUE.is("14 just not", x.closes(), 0);
        x.take(4);
        gave(x, 26, 1, 3, 0);
        DUE.is("14 just, from below", x.closes(), 1);
        x.take(5);
        gave(x, 25, 1, 3, 0);
        DUE.is("14 just not, from below", x.closes(), 0);
        AtomLadders y = square();
        gave(y, 5, 5, 1, 0);
        gave(y, 5, 5, 0, 1);
        DUE.is("14 both ways, 0 is in both", y.closes(), 1);
        gave(y, 5, 4, 0, 1);
        DUE.is("14 both ways", y.closes(), 0);
    }

    private static void barred() {
        AtomLadders x = square();
        DUE.is("15 nothing given", x.barred(), 0);
        x.line(1, 0, 0);
        DUE.is("15 one alone", x.give(0, 1, 0) == 1 ? x.barred() : -99, 0);
        x.drop();
        gave(x, 10, 0, 1, 0);
        gave(x, 10, 0, 2, 1);
        gave(x, 10, 0, 3, 2);
        gave(x, 31, 0, 3, 0);
        DUE.is("15 the least sum", x.barred(), 1);
        gave(x, 11, 0, 1, 0);
        DUE.is("15 the fewest", x.barred(), 1);
        gave(x, 12, 0, 1, 0);
        DUE.is("15 two of three", x.barred(), 1 + 32);
        gave(x, 12, 0, 1, 0);
        DUE.is("15 the fewest ahead of the least sum", x.barred(), 1 + 2 + 16);
        DUE.is("15 closes", x.closes(), 0);
        x.take(0);
        x.take(1);
        x.take(4);
        DUE.is("15 closes then", x.closes(), 1);
        DUE.is("15 0", x.barred(), 0);
    }

    private static void barredLimit() {
        AtomLadders x = square();
        for (int n = 0; n < 16; n++) {
            x.line(10 + n / 4, 0, 0);
        }
        for (int n = 0; n < 12; n++) {
            x.give(n, 1, 0);
        }
        DUE.is("15 twelve", x.barred(), 0x0FF);
        x.give(12, 1, 0);
        DUE.is("15 more than twelve", x.barred(), -2);
        x.take(0);
        DUE.is("15 twelve again", x.barred(), 0x10FE);
        for (int n = 1; n < 13; n++) {
            x.take(n);
        }
        for (int n = 0; n < 13; n++) {
            x.give(n < 4 ? n : 3, 1, 0);
        }
        DUE.is("15 four alike", x.barred(), 0);
        AtomLadders y = square();
        for (int n = 0; n < 12; n++) {
            gave(y, 10, 0, 1, 0);
        }
        DUE.is("15 twelve that close", y.barred(), 0);
        gave(y, 10, 0, 1, 0);
        DUE.is("15 state though it can close", y.barred(), -2);
        DUE.is("15 it can close", y.closes(), 1);
    }

    private static void apart() {
        AtomLadders x = square();
        x.level(0, 0, 9);
        gave(x, 10, 1, 1, 0);
        gave(x, 20, 2, 2, 1);
        DUE.is("16 high", x.apart(2, 0, true), 33);
        DUE.is("16 low", x.apart(2, 0, false), 27);
        DUE.is("16 high, down", x.apart(0, 2, true), -27);
        DUE.is("16 low, down", x.apart(0, 2, false), -33);
        gave(x, 40, 5, 3, 2);
        gave(x, 64, 0, 3, 0);
        DUE.is("16 held by the other way", x.apart(2, 0, true), 29);
        DUE.is("16 not held", x.apart(2, 0, false), 27);
        DUE.is("16 none", x.apart(4, 0, true), -10000004);
        DUE.is("16 none", x.apart(0, 4, false), -10000004);
        DUE.is("16 bad", x.apart(0, 0, true), -10000000);
        DUE.is("16 bad", x.apart(5, 0, true), -10000000);
        DUE.is("16 bad", x.apart(0, 5, true), -10000000);
        DUE.is("16 bad", x.apart(-1, 0, true), -10000000);
        DUE.is("16 bad", x.apart(0, -1, true), -10000000);
        gave(x, 61, 0, 3, 0);
        DUE.is("16 can not close", x.apart(2, 0, true), -10000002);
        DUE.is("16 can not close, ahead of none", x.apart(4, 0, true), -10000002);
        DUE.is("16 bad ahead of can not close", x.apart(4, 4, true), -10000000);
    }

    private static void best() {
        AtomLadders x = square();
        gave(x, 10, 0, 1, 0);
        gave(x, 11, 0, 1, 0);
        DUE.is("17 half", x.best(1, 0), 21);
        DUE.is("17 half", x.best(1, 1), 2);
        gave(x, 12, 0, 1, 0);
        DUE.is("17 lowest terms", x.best(1, 0), 11);
        DUE.is("17 lowest terms", x.best(1, 1), 1);
        gave(x, 7, 0, 2, 3);
        DUE.is("17 the least of its part", x.best(2, 0), 0);
        DUE.is("17 the least of its part", x.best(2, 1), 1);
        DUE.is("17 below 0", x.best(3, 0), -7);
        DUE.is("17 below 0", x.best(3, 1), 1);
        gave(x, 8, 0, 2, 3);
        DUE.is("17 above 0", x.best(3, 0), -15);
        DUE.is("17 above 0", x.best(3, 1), 2);
        DUE.is("17 bad", x.best(4, 0), FRACTION_BAD);
        DUE.is("17 bad", x.best(-1, 0), FRACTION_BAD);
        DUE.is("17 bad", x.best(0, 2), FRACTION_BAD);
        DUE.is("17 bad", x.best(0, -1), FRACTION_BAD);
    }

    private static void rest() {
        AtomLadders x = square();
        gave(x, 10, 0, 1, 0);
        gave(x, 10, 0, 1, 0);
        gave(x, 12, 0, 1, 0);
        x.line(5, 5, 5);
        DUE.is("18 below", x.rest(0, 0), -2);
        DUE.is("18 below", x.rest(0, 1), 3);
        DUE.is("18 above", x.rest(2, 0), 4);
        DUE.is("18 above", x.rest(2, 1), 3);
        DUE.is("18 state", x.rest(3, 0), FRACTION_STATE);
        gave(x, 7, 0, 2, 1);
        gave(x, 8, 0, 2, 1);
        DUE.is("18 of two levels above 0", x.rest(4, 0), -1);
        DUE.is("18 of two levels above 0", x.rest(4, 1), 2);
        DUE.is("18 bad ahead of state", x.rest(3, 2), FRACTION_BAD);
        DUE.is("18 bad", x.rest(6, 0), FRACTION_BAD);
        DUE.is("18 bad", x.rest(-1, 0), FRACTION_BAD);
        DUE.is("18 bad", x.rest(0, -1), FRACTION_BAD);
        x.take(1);
        x.take(2);
        DUE.is("18 nothing left", x.rest(0, 0), 0);
        DUE.is("18 nothing left", x.rest(0, 1), 1);
    }

    private static void settle() {
        AtomLadders x = square();
        x.height(0, 500);
        gave(x, 10, 0, 1, 0);
        gave(x, 11, 0, 1, 0);
        gave(x, 4, 0, 2, 3);
        gave(x, 5, 0, 2, 3);
        DUE.is("19 settle", x.settle(), 2);
        DUE.is("19 the least stays", x.told(0, 0), 500);
        DUE.is("19 up", x.told(1, 0), 511);
        DUE.is("19 the least stays", x.told(2, 0), 2000);
        DUE.is("19 the greater one", x.told(3, 0), 1996);
        DUE.is("19 again", x.settle(), 0);
        x.height(2, 3);
        DUE.is("19 held to 0", x.settle(), 1);
        DUE.is("19 held to 0", x.told(3, 0), 0);
        x.height(0, 999999);
        DUE.is("19 held to 1000000", x.settle(), 1);
        DUE.is("19 held to 1000000", x.told(1, 0), 1000000);
        DUE.is("19 act", x.undo() >= 0 ? x.told(1, 0) : -99, 511);
    }

    /** Four by four levels, a line to each step: as many trees as there can be, with the greatest places. */
    private static void greatest() {
        AtomLadders x = new AtomLadders();
        for (int k = 0; k < 8; k++) {
            x.level(0, k / 4, 2);
        }
        for (int n = 0; n < 16; n++) {
            gave(x, 1000000 - n * n * 7, 1000, 4 + n / 4, n % 4);
        }
        // normal equations of the full square: level 4 + a is the mean of its row, less that of row means ..
        for (int a = 0; a < 4; a++) {
            long row = 0;
            for (int b = 0; b < 4; b++) {
                long n = 4 * a + b;
                row += 1000000 - n * n * 7;
            }
            long firstColumn = 0;
            long all = 0;
            for (int n = 0; n < 16; n++) {
                all += 1000000 - (long) n * n * 7;
                firstColumn += n % 4 == 0 ? 1000000 - (long) n * n * 7 : 0;
            }
            // 16 best = 4 row + 4 firstColumn - all
            long top = 4 * row + 4 * firstColumn - all;
            DUE.is("17 four by four", x.best(4 + a, 0) * 16, top * x.best(4 + a, 1));
        }
        AtomLadders y = new AtomLadders();
        for (int k = 0; k < 8; k++) {
            y.level(0, k % 2, 2);
        }
        for (int k = 1; k < 8; k++) {
            gave(y, 1000000, 1000, k, k - 1);
        }
        DUE.is("16 the greatest", y.apart(7, 0, true), 7007000);
        DUE.is("16 the least", y.apart(0, 7, false), -7007000);
        DUE.is("17 the greatest", y.best(7, 0), 7000000);
    }
}
