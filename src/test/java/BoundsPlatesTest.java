/** The boundary cases of promises 37 to 40, sentence by sentence. */
public final class BoundsPlatesTest {
    private static final Due DUE = new Due("BoundsPlatesTest");
    private static final Edges EDGES = new Edges(DUE);
    private static final int BAD = -1;
    private static final int STATE = -2;
    private static final int FULL = -3;
    private static final long FRACTION_BAD = -1000000000000L;

    public static void main(String[] args) {
        plateNumbers();
        plateMeeting();
        meetNumbers();
        meetPlates();
        meetFull();
        offsetNumbers();
        offsetLeast();
        offsetGreatest();
        shiftNothing();
        shiftHalves();
        shiftHeld();
        shiftAll();
        DUE.end();
    }

    /** LINES with a PLACE and a PLATE each. */
    private static AtomLadders plates(int... placesAndPlates) {
        AtomLadders x = new AtomLadders();
        for (int i = 0; i + 1 < placesAndPlates.length; i += 2) {
            x.plate(x.line(placesAndPlates[i], 0, 0), placesAndPlates[i + 1]);
        }
        return x;
    }

    // ---- 37

    private static void plateNumbers() {
        EDGES.of("37 PLATE", 0, 3, v -> plates(5, 2).plate(0, v), v -> 2, BAD);
        EDGES.of("37 PLATE then", 0, 3, v -> {
            AtomLadders x = plates(5, 2);
            return x.plate(0, v) == BAD ? BAD : x.about(0, 5);
        }, v -> v, BAD);
        EDGES.of("37 the LINE", 0, 1, v -> plates(5, 2, 6, 3).plate(v, 1), v -> 2 + v, BAD);
        DUE.is("37 no LINES", new AtomLadders().plate(0, 0), BAD);
        DUE.is("37 0 at first", plates(5, 0).plate(0, 3), 0);
        AtomLadders x = plates(5, 2);
        EDGES.outside("37 PLATE", 0, 3, v -> x.plate(0, v), BAD);
        DUE.is("37 refused: what it was", x.about(0, 5), 2);
    }

    private static void plateMeeting() {
        AtomLadders x = plates(5, 0, 6, 1, 7, 2);
        x.meet(0, 1);
        for (int v = 0; v < 4; v++) {
            DUE.is("37 the first of a MEETING", x.plate(0, v), STATE);
            DUE.is("37 the second of a MEETING", x.plate(1, v), STATE);
        }
        EDGES.outside("37 BAD ahead of STATE", 0, 3, v -> x.plate(0, v), BAD);
        DUE.is("37 refused: what it was", x.about(0, 5), 0);
        DUE.is("37 refused: what it was", x.about(1, 5), 1);
        DUE.is("37 one that is in none", x.plate(2, 0), 2);
    }

    // ---- 38

    private static void meetNumbers() {
        EDGES.of("38 i", 0, 2, v -> plates(5, 0, 6, 1, 7, 2).meet(v, v == 0 ? 1 : 0), v -> 0, BAD);
        EDGES.of("38 j", 0, 2, v -> plates(5, 0, 6, 1, 7, 2).meet(v == 0 ? 1 : 0, v), v -> 0, BAD);
        DUE.is("38 no LINES", new AtomLadders().meet(0, 1), BAD);
        DUE.is("38 one LINE", plates(5, 0).meet(0, 1), BAD);
        DUE.is("38 a LINE with itself", plates(5, 3, 6, 0).meet(0, 0), BAD);
        EDGES.of("38 the sixteenth LINE", 0, 15, v -> {
            AtomLadders x = new AtomLadders();
            for (int n = 0; n < 16; n++) {
                x.plate(x.line(5, 0, 0), n % 4);
            }
            return x.meet(v, v == 3 ? 0 : 3 - v % 4);
        }, v -> 0, BAD);
    }

    private static void meetPlates() {
        for (int a = 0; a < 4; a++) {
            for (int b = 0; b < 4; b++) {
                AtomLadders x = plates(5, a, 6, b);
                DUE.is("38 PLATES " + a + ", " + b, x.meet(0, 1), a == b ? BAD : 0);
                DUE.is("38 as many", x.count(6), a == b ? 0 : 1);
                DUE.is("38 of one PLATE: in no MEETING", x.plate(0, a), a == b ? a : STATE);
            }
        }
    }

    private static void meetFull() {
        AtomLadders x = plates(5, 0, 6, 1, 7, 1);
        for (int i = 0; i < 12; i++) {
            DUE.is("38 BAD has no number", x.meet(1, 2), BAD);
            DUE.is("38 its number", x.meet(i % 2, 1 - i % 2), i);
        }
        DUE.is("38 the thirteenth", x.meet(0, 2), FULL);
        DUE.is("38 twelve", x.count(6), 12);
        DUE.is("38 LINE 2 is in none", x.plate(2, 0), 1);
        DUE.is("38 BAD ahead of FULL", x.meet(0, 2), BAD);
        EDGES.outside("38 BAD ahead of FULL", 0, 2, v -> x.meet(v, 1), BAD);
        EDGES.outside("38 BAD ahead of FULL", 0, 2, v -> x.meet(0, v), BAD);
        DUE.is("38 the OFFSET is that of twelve", x.offset(1, 0), -1);
    }

    // ---- 39

    private static void offsetNumbers() {
        for (int what = 0; what < 2; what++) {
            int asked = what;
            EDGES.of("39 PLATE", 0, 3, v -> new AtomLadders().offset(v, asked), v -> asked, FRACTION_BAD);
        }
        EDGES.of("39 what", 0, 1, v -> new AtomLadders().offset(0, v), v -> v, FRACTION_BAD);
        AtomLadders x = plates(100, 0, 107, 3, 200, 0, 206, 3);
        x.meet(0, 1);
        x.meet(3, 2);
        DUE.is("39 the last PLATE", x.offset(3, 0), -13);
        DUE.is("39 the last PLATE", x.offset(3, 1), 2);
        EDGES.outside("39 PLATE", 0, 3, v -> x.offset(v, 0), FRACTION_BAD);
        EDGES.outside("39 what", 0, 1, v -> x.offset(3, v), FRACTION_BAD);
    }

    private static void offsetLeast() {
        AtomLadders x = plates(100, 3, 90, 2, 80, 1, 70, 0);
        x.meet(0, 1);
        DUE.is("39 0 for the least PLATE of those that hang together", x.offset(2, 0), 0);
        DUE.is("39 the other one", x.offset(3, 0), -10);
        DUE.is("39 one that hangs nowhere", x.offset(1, 0), 0);
        x.meet(2, 0);
        DUE.is("39 now PLATE 1 is the least", x.offset(1, 0), 0);
        DUE.is("39 now PLATE 1 is the least", x.offset(3, 0), -20);
        DUE.is("39 now PLATE 1 is the least", x.offset(2, 0), -10);
        x.meet(3, 1);
        DUE.is("39 now PLATE 0 is the least", x.offset(0, 0), 0);
        DUE.is("39 now PLATE 0 is the least", x.offset(2, 0), -20);
        DUE.is("39 now PLATE 0 is the least", x.offset(3, 0), -30);
        DUE.is("39 now PLATE 0 is the least", x.offset(1, 0), -10);
        AtomLadders y = plates(100, 0, 110, 1, 120, 0, 110, 1);
        y.meet(0, 1);
        y.meet(2, 3);
        DUE.is("39 0 over 1", y.offset(1, 0), 0);
        DUE.is("39 0 over 1", y.offset(1, 1), 1);
    }

    private static void offsetGreatest() {
        AtomLadders x = plates(1, 0, 1000000, 1, 1, 1, 1000000, 2, 1, 2, 1000000, 3);
        x.meet(0, 1);
        x.meet(2, 3);
        x.meet(4, 5);
        DUE.is("39 as far below 0 as can be", x.offset(3, 0), -2999997);
        AtomLadders y = plates(1000000, 0, 1, 1, 1000000, 1, 1, 2, 1000000, 2, 1, 3);
        y.meet(1, 0);
        y.meet(3, 2);
        y.meet(5, 4);
        DUE.is("39 as far above 0 as can be", y.offset(3, 0), 2999997);
        AtomLadders z = plates(1, 0, 2, 1, 4, 2, 9, 3);
        for (int i = 0; i < 12; i++) {
            z.meet(i % 3, 3);
        }
        // four MEETINGS of each with PLATE 3: o3 = -8, o1 = -1, o2 = -3
        DUE.is("39 twelve", z.offset(3, 0), -8);
        DUE.is("39 twelve", z.offset(2, 0), -3);
        DUE.is("39 twelve", z.offset(1, 0), -1);
    }

    // ---- 40

    private static void shiftNothing() {
        DUE.is("40 nothing there", new AtomLadders().shift(), 0);
        AtomLadders x = plates(5, 0, 6, 1, 7, 2, 8, 3);
        DUE.is("40 no MEETINGS", x.shift(), 0);
        for (int n = 0; n < 4; n++) {
            DUE.is("40 all stay", x.about(n, 0), 5 + n);
        }
        x.plate(0, 1);
        x.meet(0, 2);
        DUE.is("40 a MEETING", x.count(6), 1);
        // PLATE 2's OFFSET is -2
        DUE.is("40 one became another", x.shift(), 1);
        DUE.is("40 one became another", x.about(2, 0), 5);
        DUE.is("40 MEETINGS stay", x.count(6), 1);
        DUE.is("40 again", x.shift(), 0);
        DUE.is("40 no ACT", x.count(8), 0);
    }

    /** The PLACE that a LINE of PLATE 1 has, when two MEETINGS with PLATE 0 say less by these. */
    private static int shifted(int place, int less, int other) {
        AtomLadders x = plates(5000 - less, 0, 5000, 1, 6000 - other, 0, 6000, 1, place, 1);
        x.meet(0, 1);
        x.meet(2, 3);
        x.shift();
        return x.about(4, 0);
    }

    private static void shiftHalves() {
        DUE.is("40 a half below: the greater one", shifted(100, 10, 11), 90);
        DUE.is("40 a half above: the greater one", shifted(100, -10, -11), 111);
        DUE.is("40 a whole number", shifted(100, 10, 12), 89);
        DUE.is("40 half of one below is none", shifted(100, 0, 1), 100);
        DUE.is("40 half of one above is one", shifted(100, 0, -1), 101);
        AtomLadders x = plates(100, 0, 101, 1, 100, 0, 100, 1, 100, 0, 100, 1);
        x.meet(0, 1);
        x.meet(2, 3);
        x.meet(4, 5);
        DUE.is("40 a third is none", x.shift(), 0);
        AtomLadders y = plates(100, 0, 101, 1, 100, 0, 101, 1, 100, 0, 100, 1);
        y.meet(0, 1);
        y.meet(2, 3);
        y.meet(4, 5);
        DUE.is("40 two thirds are one", y.shift(), 3);
        DUE.is("40 two thirds are one", y.about(5, 0), 99);
    }

    private static void shiftHeld() {
        DUE.is("40 just 1", shifted(11, 10, 10), 1);
        DUE.is("40 held to 1", shifted(10, 10, 10), 1);
        DUE.is("40 held to 1", shifted(1, 10, 10), 1);
        DUE.is("40 a half is 1", shifted(11, 10, 11), 1);
        DUE.is("40 2", shifted(12, 10, 10), 2);
        DUE.is("40 just 1000000", shifted(999990, -10, -10), 1000000);
        DUE.is("40 held to 1000000", shifted(999991, -10, -10), 1000000);
        DUE.is("40 held to 1000000", shifted(1000000, -10, -10), 1000000);
        DUE.is("40 a half above", shifted(999990, -9, -10), 1000000);
        DUE.is("40 999999", shifted(999989, -10, -10), 999999);
        AtomLadders x = plates(1, 0, 1000000, 1, 1, 1, 2, 1);
        x.meet(0, 1);
        DUE.is("40 far below, the one that was 1 is no other", x.shift(), 2);
        DUE.is("40 far below", x.about(2, 0), 1);
        AtomLadders y = plates(1000000, 0, 1, 1, 1000000, 1, 999999, 1);
        y.meet(0, 1);
        DUE.is("40 far above, the one that was 1000000 is no other", y.shift(), 2);
        DUE.is("40 far above", y.about(3, 0), 1000000);
    }

    private static void shiftAll() {
        AtomLadders x = new AtomLadders();
        for (int n = 0; n < 16; n++) {
            x.plate(x.line(100 + 10 * (n % 4), 0, 0), n % 4);
        }
        x.meet(0, 1);
        x.meet(1, 2);
        x.meet(2, 3);
        DUE.is("40 all that are not of PLATE 0", x.shift(), 12);
        for (int n = 0; n < 16; n++) {
            DUE.is("40 PLACE " + n, x.about(n, 0), 100);
            DUE.is("40 PLATES stay", x.about(n, 5), n % 4);
        }
        AtomLadders y = plates(100, 3, 110, 2);
        y.meet(0, 1);
        DUE.is("40 LINE 0 too", y.shift(), 1);
        DUE.is("40 LINE 0 too", y.about(0, 0), 110);
        DUE.is("40 the least PLATE stays", y.about(1, 0), 110);
        AtomLadders z = new AtomLadders();
        for (int n = 0; n < 16; n++) {
            z.line(100, 0, 0);
        }
        z.plate(15, 1);
        z.plate(0, 1);
        z.meet(1, 2);
        DUE.is("40 no MEETING", z.shift(), 0);
        z.drop();
        z.line(130, 0, 0);
        z.plate(15, 1);
        z.meet(1, 15);
        DUE.is("40 LINES 0 and 15", z.shift(), 2);
        DUE.is("40 LINE 0", z.about(0, 0), 70);
        DUE.is("40 LINE 15", z.about(15, 0), 100);
    }
}
