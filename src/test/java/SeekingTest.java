/** Promises 20 to 23: seek, score, foretold, foretoldAt. */
public final class SeekingTest {
    private static final Due DUE = new Due("SeekingTest");

    public static void main(String[] args) {
        seek();
        chance();
        bounds();
        score();
        foretold();
        foretoldBounds();
        DUE.end();
    }

    private static AtomLadders two() {
        AtomLadders x = new AtomLadders();
        x.level(1000, 0, 2);
        x.level(1300, 0, 4);
        x.level(9000, 1, 2);
        return x;
    }

    private static void seek() {
        AtomLadders x = two();
        DUE.is("20 no lines", x.seek(1, 2, 0), -4);
        DUE.is("20 no lines", x.seek(1, 2, 1), -4);
        DUE.is("20 no lines", x.seek(1, 2, 2), -4);
        x.line(500, 0, 0);
        DUE.is("20 the least of several", x.seek(1, 2, 0), 500);
        DUE.is("20 its score", x.seek(1, 2, 1), 1);
        DUE.is("20 another spin", x.seek(1, 0, 0), 500);
        DUE.is("20 another spin", x.seek(1, 6, 0), 800);
        DUE.is("20 no such step", x.seek(1, 1, 0), -4);
        DUE.is("20 another side", x.seek(0, 2, 0), 8500);
        x.line(200, 0, 0);
        DUE.is("20 the greatest score", x.seek(1, 2, 0), 800);
        DUE.is("20 the greatest score", x.seek(1, 2, 1), 2);
        x.give(1, 2, 0);
        DUE.is("20 given lines do not count", x.seek(1, 2, 1), 1);
        DUE.is("20 given lines do not count", x.seek(1, 2, 0), 500);
        x.give(0, 2, 0);
        DUE.is("20 all given", x.seek(1, 2, 0), -4);
        DUE.is("20 bad", x.seek(2, 2, 0), -1);
        DUE.is("20 bad", x.seek(-1, 2, 0), -1);
        DUE.is("20 bad", x.seek(1, 10, 0), -1);
        DUE.is("20 bad", x.seek(1, -1, 0), -1);
        DUE.is("20 bad", x.seek(1, 2, 3), -1);
        DUE.is("20 bad", x.seek(1, 2, -1), -1);
    }

    private static void chance() {
        AtomLadders x = new AtomLadders();
        x.level(0, 0, 2);
        x.line(100, 80, 0);
        // SOUGHT 100; 137, 174 are within 20 to 180, 211 is not
        DUE.is("20 sought", x.seek(1, 2, 0), 100);
        DUE.is("20 chance", x.seek(1, 2, 2), 2);
        AtomLadders y = new AtomLadders();
        y.level(3800, 0, 2);
        y.line(3700, 0, 0);
        y.line(3800, 0, 0);
        // SOUGHT 0; the 100th try is 3700: of it is no line 100 away
        DUE.is("20 sought", y.seek(1, 2, 0), 0);
        DUE.is("20 none there", y.seek(1, 2, 2), 0);
        y.line(100, 0, 0);
        DUE.is("20 the 100th", y.seek(1, 2, 2), 1);
        y.line(137, 0, 0);
        DUE.is("20 the 99th and the 100th", y.seek(1, 2, 2), 2);
        y.line(63, 0, 0);
        DUE.is("20 none behind the 100th", y.seek(1, 2, 2), 2);
    }

    private static void bounds() {
        AtomLadders x = new AtomLadders();
        x.level(500000, 0, 2);
        x.line(500001, 0, 0);
        DUE.is("20 out of the heights", x.seek(1, 2, 0), -4);
        x.line(500000, 0, 0);
        DUE.is("20 0", x.seek(1, 2, 0), 0);
        x.height(0, 499999);
        DUE.is("20 not below 0", x.seek(1, 2, 0), 999999);
        AtomLadders z = new AtomLadders();
        z.level(999999, 0, 2);
        z.level(999990, 0, 2);
        z.level(999900, 0, 2);
        z.line(1, 0, 0);
        z.line(10, 0, 0);
        z.line(100, 0, 0);
        DUE.is("20 1000000", z.seek(1, 2, 0), 1000000);
        DUE.is("20 1000000", z.seek(1, 2, 1), 3);
        z.drop();
        z.drop();
        z.drop();
        z.line(101, 0, 0);
        z.line(11, 0, 0);
        z.line(2, 0, 0);
        DUE.is("20 not 1000001", z.seek(1, 2, 0), 999889);
        DUE.is("20 not 1000001", z.seek(1, 2, 1), 2);
        AtomLadders y = new AtomLadders();
        y.level(999900, 0, 2);
        y.line(100, 200, 0);
        // SOUGHT 999800; the first 10 tries are up to 1000170, and up to 1000200: | | 999900 - h | - 100 | at most 200
        DUE.is("20 sought", y.seek(1, 2, 0), 999800);
        DUE.is("20 chance above the heights too", y.seek(1, 2, 2), 10);
    }

    private static void score() {
        AtomLadders x = two();
        x.line(500, 5, 0);
        x.line(200, 0, 0);
        DUE.is("21 both", x.score(1, 2, 1500), 2);
        DUE.is("21 the end", x.score(1, 2, 1505), 1);
        DUE.is("21 behind the end", x.score(1, 2, 1506), 0);
        DUE.is("21 below", x.score(1, 2, 495), 1);
        DUE.is("21 below", x.score(1, 2, 494), 0);
        DUE.is("21 one line of two levels counts once", x.score(1, 2, 800), 2);
        DUE.is("21 spin 6 has one level", x.score(1, 6, 1500), 1);
        DUE.is("21 spin 0 has one level", x.score(1, 0, 1500), 1);
        DUE.is("21 side", x.score(0, 2, 1500), 0);
        DUE.is("21 side", x.score(0, 2, 8800), 1);
        x.give(1, 2, 0);
        DUE.is("21 given", x.score(1, 2, 1500), 1);
        DUE.is("21 bad", x.score(1, 2, -1), -1);
        DUE.is("21 bad", x.score(1, 2, 1000001), -1);
        DUE.is("21 edge", x.score(1, 2, 1000000), 0);
        DUE.is("21 edge", x.score(1, 2, 0), 0);
        DUE.is("21 bad", x.score(2, 2, 0), -1);
        DUE.is("21 bad", x.score(-1, 2, 0), -1);
        DUE.is("21 bad", x.score(1, 10, 0), -1);
        DUE.is("21 bad", x.score(1, -1, 0), -1);
    }

    private static void row(AtomLadders x, int i, int where, int u, int l, int fit) {
        DUE.is("23 where " + i, x.foretoldAt(i, 0), where);
        DUE.is("23 u " + i, x.foretoldAt(i, 1), u);
        DUE.is("23 l " + i, x.foretoldAt(i, 2), l);
        DUE.is("23 fit " + i, x.foretoldAt(i, 3), fit);
    }

    private static void foretold() {
        AtomLadders x = new AtomLadders();
        x.level(200, 1, 2);
        x.level(100, 0, 2);
        x.level(100, 0, 4);
        x.level(0, 1, 4);
        x.level(200, 1, 4);
        x.level(200, 0, 4);
        DUE.is("22 foretold", x.foretold(), 7);
        x.line(100, 0, 0);
        x.line(103, 5, 0);
        x.line(205, 5, 0);
        row(x, 0, 100, 0, 1, 2);
        row(x, 1, 100, 0, 2, 2);
        row(x, 2, 100, 1, 3, 2);
        row(x, 3, 100, 2, 3, 2);
        row(x, 4, 100, 4, 1, 2);
        row(x, 5, 100, 4, 2, 2);
        row(x, 6, 200, 5, 3, 1);
        DUE.is("23 none", x.foretoldAt(7, 0), -4);
        x.give(1, 0, 2);
        DUE.is("22 given", x.foretold(), 6);
        row(x, 1, 100, 1, 3, 2);
        x.give(1, 2, 0);
        DUE.is("22 given to the step the other way", x.foretold(), 7);
        x.height(5, 1);
        row(x, 0, 1, 5, 3, 0);
        // 0 and 4 are higher than 5 now
        DUE.is("22 more", x.foretold(), 9);
        row(x, 8, 199, 4, 5, 0);
        row(x, 7, 199, 0, 5, 0);
    }

    private static void foretoldBounds() {
        AtomLadders x = new AtomLadders();
        DUE.is("22 nothing", x.foretold(), 0);
        DUE.is("23 none", x.foretoldAt(0, 0), -4);
        DUE.is("23 bad", x.foretoldAt(-1, 0), -1);
        DUE.is("23 bad", x.foretoldAt(Integer.MIN_VALUE, 0), -1);
        DUE.is("23 none", x.foretoldAt(Integer.MAX_VALUE, 0), -4);
        DUE.is("23 bad", x.foretoldAt(0, 4), -1);
        DUE.is("23 bad", x.foretoldAt(0, -1), -1);
        for (int k = 0; k < 8; k++) {
            x.level(k, k % 2, 3);
        }
        DUE.is("22 all steps up", x.foretold(), 16);
        x.level(0, 0, 0);
        DUE.is("23 the last", x.foretoldAt(15, 0), 7);
    }
}
