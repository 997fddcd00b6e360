/** The boundary cases of promises 20 to 23, sentence by sentence. */
public final class BoundsSeekingTest {
    private static final Due DUE = new Due("BoundsSeekingTest");
    private static final Edges EDGES = new Edges(DUE);
    private static final int BAD = -1;
    private static final int NONE = -4;

    public static void main(String[] args) {
        seekNumbers();
        seekNone();
        seekRule();
        seekHeights();
        seekLeast();
        seekOfEight();
        chanceEnds();
        chanceAsGreat();
        chanceAll();
        scoreNumbers();
        scoreEnds();
        scoreCounts();
        foretoldWhich();
        foretoldGiven();
        foretoldNumbers();
        foretoldOrder();
        foretoldFits();
        DUE.end();
    }

    /** A LEVEL of SIDE 0 and SPIN 2, and LINES without ENDS. */
    private static AtomLadders one(int height, int... places) {
        AtomLadders x = new AtomLadders();
        x.level(height, 0, 2);
        for (int place : places) {
            x.line(place, 0, 0);
        }
        return x;
    }

    // ---- 20

    private static void seekNumbers() {
        AtomLadders x = one(5000, 300);
        x.level(6000, 1, 2);
        for (int what = 0; what < 3; what++) {
            int asked = what;
            EDGES.outside("20 SIDE", 0, 1, v -> x.seek(v, 2, asked), BAD);
            EDGES.outside("20 SPIN", 0, 9, v -> x.seek(1, v, asked), BAD);
        }
        EDGES.of("20 SIDE", 0, 1, v -> x.seek(v, 2, 0), v -> v == 0 ? 5700 : 4700, BAD);
        EDGES.of("20 SPIN", 0, 9, v -> x.seek(1, v, 0), v -> v == 0 || v == 4 ? 4700 : NONE, BAD);
        long[] due = {4700, 1, 0};
        EDGES.of("20 what", 0, 2, v -> x.seek(1, 2, v), v -> due[v], BAD);
        EDGES.outside("20 BAD ahead of NONE", 0, 2, v -> new AtomLadders().seek(1, 2, v), BAD);
        EDGES.outside("20 BAD ahead of NONE", 0, 9, v -> new AtomLadders().seek(1, v, 0), BAD);
    }

    private static void none(String why, AtomLadders x) {
        for (int what = 0; what < 3; what++) {
            DUE.is("20 nothing can be tried: " + why, x.seek(1, 2, what), NONE);
        }
    }

    private static void seekNone() {
        none("nothing there", new AtomLadders());
        none("no LINES", one(5000));
        AtomLadders x = new AtomLadders();
        x.line(5, 0, 0);
        none("no LEVELS", x);
        x.level(5000, 1, 2);
        none("of the same SIDE", x);
        x.level(5000, 0, 3);
        none("SPINS unlike by 1", x);
        x.level(5000, 0, 5);
        none("SPINS unlike by 3", x);
        x.level(5000, 0, 4);
        DUE.is("20 SPINS unlike by 2", x.seek(1, 2, 0), 4995);
        x.give(0, 0, 3);
        none("all LINES are GIVEN", x);
        AtomLadders y = one(500000, 500001, 1000000);
        none("all are below 0 or above 1000000", y);
    }

    private static void seekRule() {
        AtomLadders x = new AtomLadders();
        x.level(5000, 0, 0);
        x.line(10, 0, 0);
        DUE.is("20 SPINS both 0", x.seek(1, 0, 0), NONE);
        DUE.is("20 SPINS 0 and 1", x.seek(1, 1, 0), NONE);
        DUE.is("20 SPINS 0 and 2", x.seek(1, 2, 0), 4990);
        AtomLadders y = new AtomLadders();
        y.level(5000, 1, 9);
        y.line(10, 0, 0);
        DUE.is("20 SPINS 9 and 9", y.seek(0, 9, 0), 4990);
        DUE.is("20 SPINS 9 and 7", y.seek(0, 7, 0), 4990);
        DUE.is("20 SPINS 9 and 8", y.seek(0, 8, 0), NONE);
        DUE.is("20 SPINS 9 and 6", y.seek(0, 6, 0), NONE);
    }

    private static void seekHeights() {
        DUE.is("20 less the PLACE, just 0", one(500, 500).seek(1, 2, 0), 0);
        DUE.is("20 less the PLACE, below 0: more it", one(499, 500).seek(1, 2, 0), 999);
        DUE.is("20 more the PLACE, just 1000000", one(499999, 500001).seek(1, 2, 0), 1000000);
        DUE.is("20 more the PLACE, above it", one(500000, 500001).seek(1, 2, 0), NONE);
        DUE.is("20 from 0", one(0, 1000000).seek(1, 2, 0), 1000000);
        DUE.is("20 from 1", one(1, 1000000).seek(1, 2, 0), NONE);
        DUE.is("20 from 1000000", one(1000000, 1000000).seek(1, 2, 0), 0);
        DUE.is("20 from 999999", one(999999, 1000000).seek(1, 2, 0), NONE);
        DUE.is("20 from 1000000, one less", one(1000000, 1).seek(1, 2, 0), 999999);
        DUE.is("20 from 0, one more", one(0, 1).seek(1, 2, 0), 1);
    }

    private static void seekLeast() {
        AtomLadders x = one(5000, 700, 300, 500);
        DUE.is("20 the least of several of one SCORE", x.seek(1, 2, 0), 4300);
        x.level(5600, 0, 2);
        // 5300 is 300 above 5000 and 300 below 5600: of one LINE; 5100 is 500 below 5600; 5300 + .. ; 4900 has 700
        DUE.is("20 one LINE of two LEVELS counts once", x.seek(1, 2, 1), 1);
        DUE.is("20 the least still", x.seek(1, 2, 0), 4300);
        x.line(1300, 0, 0);
        DUE.is("20 the greatest SCORE", x.seek(1, 2, 0), 4300);
        DUE.is("20 the greatest SCORE", x.seek(1, 2, 1), 2);
        x.line(100, 0, 0);
        // 5100: 100 above 5000, 500 below 5600; 5700: 700 above 5000, 100 above 5600
        DUE.is("20 the least of those with 2", x.seek(1, 2, 0), 4300);
        x.height(1, 5601);
        DUE.is("20 the LINE of 1300 is one off", x.seek(1, 2, 1), 1);
        AtomLadders y = one(5000, 700);
        y.line(1301, 1, 0);
        y.level(5600, 0, 2);
        // 4299 is tried too, by the LINE of 1301 alone
        DUE.is("20 a LINE counts within its END", y.seek(1, 2, 0), 4300);
        DUE.is("20 a LINE counts within its END", y.seek(1, 2, 1), 2);
        y.line(700, 1, 0);
        DUE.is("20 the greatest SCORE ahead of the least HEIGHT", y.seek(1, 2, 0), 4300);
        DUE.is("20 three LINES there", y.seek(1, 2, 1), 3);
        DUE.is("20 two LINES at the less one", y.score(1, 2, 4299), 2);
    }

    private static void seekOfEight() {
        AtomLadders x = new AtomLadders();
        for (int k = 0; k < 8; k++) {
            x.level(5000 + 7 * k, 0, 2);
        }
        for (int n = 0; n < 16; n++) {
            x.line(1000 + 49 * n, 0, 0);
        }
        // the last LEVEL less the last PLACE is 3314, which is the first LEVEL less the last PLACE but one
        DUE.is("20 sixteen LINES, eight LEVELS", x.seek(1, 2, 0), 3314);
        DUE.is("20 sixteen LINES, eight LEVELS", x.seek(1, 2, 1), 2);
        DUE.is("21 the least that is tried", x.score(1, 2, 3265), 1);
        AtomLadders y = one(5000, 700);
        y.level(5100, 0, 4);
        DUE.is("20 two LEVELS", y.seek(1, 4, 0), 4300);
        DUE.is("20 of the one alone", y.seek(1, 6, 0), 4400);
        DUE.is("20 of the other alone", y.seek(1, 0, 0), 4300);
        DUE.is("20 of none of them", y.seek(1, 9, 0), NONE);
        DUE.is("20 of the one alone", y.seek(1, 6, 1), 1);
        DUE.is("21 of the one alone", y.score(1, 6, 4300), 0);
    }

    /** SOUGHT is 0; a LINE more reaches one try, or the one beside it. */
    private static int chanceWith(int at) {
        // a LEVEL at 100000: 0 is tried by the LINE of 100000, with SCORE 1
        AtomLadders x = one(100000, 100000);
        x.line(100000 - at, 0, 0);
        DUE.is("20 SOUGHT", x.seek(1, 2, 0), 0);
        return x.seek(1, 2, 2);
    }

    private static void chanceEnds() {
        DUE.is("20 the first, 37 more", chanceWith(37), 1);
        DUE.is("20 36 more is none", chanceWith(36), 0);
        DUE.is("20 38 more is none", chanceWith(38), 0);
        DUE.is("20 the second, 74 more", chanceWith(74), 1);
        DUE.is("20 the last, 3700 more", chanceWith(3700), 1);
        DUE.is("20 3699 more is none", chanceWith(3699), 0);
        DUE.is("20 3701 more is none", chanceWith(3701), 0);
        DUE.is("20 3737 more is none", chanceWith(3737), 0);
        AtomLadders x = one(1, 999999);
        DUE.is("20 SOUGHT is 1000000", x.seek(1, 2, 0), 1000000);
        DUE.is("20 all tries are above 1000000", x.seek(1, 2, 2), 0);
    }

    private static void chanceAsGreat() {
        AtomLadders x = one(100000, 100000, 100000, 99963, 99926);
        DUE.is("20 SOUGHT", x.seek(1, 2, 0), 0);
        DUE.is("20 its SCORE", x.seek(1, 2, 1), 2);
        DUE.is("20 a less SCORE is none", x.seek(1, 2, 2), 0);
        x.line(99926, 0, 0);
        DUE.is("20 a SCORE as great", x.seek(1, 2, 2), 1);
        x.line(99963, 0, 0);
        DUE.is("20 two", x.seek(1, 2, 2), 2);
        x.line(99963, 0, 0);
        DUE.is("20 a greater SCORE is SOUGHT then", x.seek(1, 2, 0), 37);
        DUE.is("20 none is as great", x.seek(1, 2, 2), 0);
    }

    /** Four LEVELS that are 925 apart and a LINE of the greatest END: it is near all the way. */
    private static void chanceAll() {
        AtomLadders x = new AtomLadders();
        for (int k = 0; k < 4; k++) {
            x.level(1000 + 925 * k, 0, 2);
        }
        x.line(1000, 1000, 0);
        DUE.is("20 SOUGHT", x.seek(1, 2, 0), 0);
        DUE.is("20 all 100", x.seek(1, 2, 2), 100);
        x.height(3, 1000);
        // the last LEVEL is at 2850 then: up to 4850 is near, of which 3700 is the last try
        DUE.is("20 all 100 still", x.seek(1, 2, 2), 100);
        x.height(2, 1000);
        x.height(1, 1000);
        // up to 3000: 81 times 37 is 2997
        DUE.is("20 81 of them", x.seek(1, 2, 2), 81);
    }

    // ---- 21

    private static void scoreNumbers() {
        AtomLadders x = one(500000, 500000);
        EDGES.of("21 HEIGHT", 0, 1000000, v -> x.score(1, 2, v), v -> v == 500000 ? 0 : 1, BAD);
        EDGES.of("21 SIDE", 0, 1, v -> x.score(v, 2, 0), v -> v, BAD);
        EDGES.of("21 SPIN", 0, 9, v -> x.score(1, v, 0), v -> v == 0 || v == 4 ? 1 : 0, BAD);
        DUE.is("21 nothing there", new AtomLadders().score(0, 0, 0), 0);
        DUE.is("21 no LINES", one(5).score(1, 2, 5), 0);
        DUE.is("21 below 0 of HEIGHT 0", one(1, 1).score(1, 2, 0), 1);
    }

    private static void scoreEnds() {
        for (int end : new int[] {0, 1, 999, 1000}) {
            AtomLadders x = new AtomLadders();
            x.level(500000, 0, 2);
            x.line(5000, end, 0);
            int[] at = {500000 + 5000 - end, 500000 + 5000 + end, 500000 - 5000 - end, 500000 - 5000 + end};
            for (int i = 0; i < 4; i++) {
                int outwards = i % 2 == 0 ? -1 : 1;
                DUE.is("21 just END " + end, x.score(1, 2, at[i]), 1);
                DUE.is("21 more than END " + end, x.score(1, 2, at[i] + outwards), 0);
            }
        }
        AtomLadders y = new AtomLadders();
        y.level(500000, 0, 2);
        y.line(1000, 1000, 0);
        DUE.is("21 its own HEIGHT, PLACE no more than END", y.score(1, 2, 500000), 1);
        y.drop();
        y.line(1000, 999, 0);
        DUE.is("21 its own HEIGHT, PLACE more than END", y.score(1, 2, 500000), 0);
    }

    private static void scoreCounts() {
        AtomLadders x = one(5000);
        for (int n = 0; n < 16; n++) {
            x.line(100, 0, 0);
            DUE.is("21 all LINES that are not GIVEN", x.score(1, 2, 5100), n + 1);
        }
        x.level(5200, 0, 2);
        DUE.is("21 of two LEVELS each LINE once", x.score(1, 2, 5100), 16);
        x.level(9000, 1, 2);
        for (int n = 0; n < 16; n++) {
            x.give(n, 2, 0);
            DUE.is("21 those that are GIVEN are none", x.score(1, 2, 5100), 15 - n);
        }
    }

    // ---- 22, 23

    private static void foretoldWhich() {
        for (int gap = -1; gap <= 1; gap++) {
            AtomLadders x = new AtomLadders();
            x.level(500, 0, 2);
            x.level(500 + gap, 1, 2);
            DUE.is("22 u higher than l, by " + gap, x.foretold(), gap == 0 ? 0 : 1);
            DUE.is("23 where, by " + gap, x.foretoldAt(0, 0), gap == 0 ? NONE : 1);
            DUE.is("23 u, by " + gap, x.foretoldAt(0, 1), gap == 0 ? NONE : gap > 0 ? 1 : 0);
            DUE.is("23 l, by " + gap, x.foretoldAt(0, 2), gap == 0 ? NONE : gap > 0 ? 0 : 1);
        }
        DUE.is("22 nothing there", new AtomLadders().foretold(), 0);
        AtomLadders y = new AtomLadders();
        y.level(0, 0, 2);
        DUE.is("22 one LEVEL", y.foretold(), 0);
        y.level(1000000, 0, 2);
        DUE.is("22 not ALLOWED", y.foretold(), 0);
        y.level(1000000, 1, 2);
        DUE.is("22 one", y.foretold(), 1);
        DUE.is("23 as far as can be", y.foretoldAt(0, 0), 1000000);
    }

    private static void foretoldGiven() {
        AtomLadders x = new AtomLadders();
        x.level(0, 0, 2);
        x.level(10, 1, 2);
        x.line(10, 0, 0);
        x.line(10, 0, 0);
        DUE.is("22 LINES that FIT but are not GIVEN", x.foretold(), 1);
        x.give(0, 0, 1);
        DUE.is("22 GIVEN to the STEP downwards", x.foretold(), 1);
        x.give(0, 1, 0);
        DUE.is("22 GIVEN to it", x.foretold(), 0);
        x.give(1, 1, 0);
        x.take(0);
        DUE.is("22 another LINE still is", x.foretold(), 0);
        x.take(1);
        DUE.is("22 no LINE is", x.foretold(), 1);
        x.height(0, 11);
        DUE.is("22 the other one is higher now", x.foretoldAt(0, 1), 0);
        AtomLadders y = new AtomLadders();
        y.level(0, 0, 2);
        y.level(5, 0, 2);
        y.level(10, 1, 2);
        y.level(20, 1, 2);
        y.line(10, 0, 0);
        y.give(0, 2, 0);
        DUE.is("22 GIVEN to a STEP of the same u, of the same l", y.foretold(), 3);
        int[] due = {2, 1, 3, 1, 3, 0};
        for (int i = 0; i < 3; i++) {
            DUE.is("23 u " + i, y.foretoldAt(i, 1), due[2 * i]);
            DUE.is("23 l " + i, y.foretoldAt(i, 2), due[2 * i + 1]);
        }
    }

    private static void foretoldNumbers() {
        AtomLadders x = new AtomLadders();
        for (int k = 0; k < 8; k++) {
            x.level(10 * k, k % 2, 2);
        }
        DUE.is("22 as many as there can be", x.foretold(), 16);
        for (int what = 0; what < 4; what++) {
            int asked = what;
            EDGES.below("23 i", 0, v -> x.foretoldAt(v, asked), BAD);
            DUE.is("23 the last", x.foretoldAt(15, what), new int[] {70, 7, 0, 0}[what]);
            DUE.is("23 behind the last", x.foretoldAt(16, what), NONE);
            DUE.is("23 far behind", x.foretoldAt(Integer.MAX_VALUE, what), NONE);
            DUE.is("23 none at all", new AtomLadders().foretoldAt(0, what), NONE);
        }
        EDGES.outside("23 what", 0, 3, v -> x.foretoldAt(0, v), BAD);
        EDGES.outside("23 what, BAD ahead of NONE", 0, 3, v -> x.foretoldAt(16, v), BAD);
        DUE.is("23 where", x.foretoldAt(0, 0), 10);
        DUE.is("23 how many FIT", x.foretoldAt(0, 3), 0);
    }

    private static void foretoldOrder() {
        AtomLadders x = new AtomLadders();
        for (int k = 0; k < 4; k++) {
            x.level(100, 1, 2);
        }
        for (int k = 0; k < 4; k++) {
            x.level(k == 3 ? 1 : 0, 0, 2);
        }
        for (int i = 0; i < 16; i++) {
            // those of 99 ahead: u 0 to 3 with l 7; then those of 100 by u, then by l
            int u = i < 4 ? i : (i - 4) / 3;
            int l = i < 4 ? 7 : 4 + (i - 4) % 3;
            DUE.is("23 the least first " + i, x.foretoldAt(i, 0), i < 4 ? 99 : 100);
            DUE.is("23 then by u " + i, x.foretoldAt(i, 1), u);
            DUE.is("23 then by l " + i, x.foretoldAt(i, 2), l);
        }
    }

    private static void foretoldFits() {
        AtomLadders x = new AtomLadders();
        x.level(5000, 0, 2);
        x.level(5100, 1, 2);
        x.level(7000, 0, 2);
        x.line(93, 7, 0);
        x.line(92, 7, 0);
        x.line(107, 7, 0);
        x.line(108, 7, 0);
        x.line(1000, 900, 0);
        x.line(1000, 899, 0);
        DUE.is("23 just within ENDS", x.foretoldAt(0, 3), 3);
        x.give(0, 2, 1);
        x.give(2, 2, 1);
        DUE.is("23 GIVEN to others or not", x.foretoldAt(0, 3), 3);
        DUE.is("23 the STEP of others is none", x.foretold(), 1);
    }
}
