/** Promises 37 to 40: plate, meet, offset, shift. */
public final class PlatesTest {
    private static final Due DUE = new Due("PlatesTest");
    private static final long FRACTION_BAD = -1000000000000L;

    public static void main(String[] args) {
        plate();
        meet();
        offset();
        shift();
        shiftBounds();
        DUE.end();
    }

    private static AtomLadders plates(int... placesAndPlates) {
        AtomLadders x = new AtomLadders();
        for (int i = 0; i + 1 < placesAndPlates.length; i += 2) {
            x.plate(x.line(placesAndPlates[i], 0, 0), placesAndPlates[i + 1]);
        }
        return x;
    }

    private static void plate() {
        AtomLadders x = new AtomLadders();
        DUE.is("37 bad", x.plate(0, 0), -1);
        x.line(5, 0, 0);
        x.line(6, 0, 0);
        DUE.is("37 0 at first", x.plate(0, 3), 0);
        DUE.is("37 what it was", x.plate(0, 1), 3);
        DUE.is("37 bad", x.plate(0, 4), -1);
        DUE.is("37 bad", x.plate(0, -1), -1);
        DUE.is("37 bad", x.plate(2, 0), -1);
        DUE.is("37 bad", x.plate(-1, 0), -1);
        DUE.is("37 stays", x.about(0, 5), 1);
        x.line(7, 0, 0);
        x.meet(1, 0);
        DUE.is("37 state", x.plate(0, 1), -2);
        DUE.is("37 state", x.plate(1, 2), -2);
        DUE.is("37 bad ahead of state", x.plate(0, 4), -1);
        DUE.is("37 another line", x.plate(2, 2), 0);
        DUE.is("37 no act", x.count(8), 0);
    }

    private static void meet() {
        AtomLadders x = plates(10, 0, 20, 1, 30, 1);
        DUE.is("38 one plate", x.meet(1, 2), -1);
        DUE.is("38 itself", x.meet(0, 0), -1);
        DUE.is("38 bad", x.meet(0, 3), -1);
        DUE.is("38 bad", x.meet(3, 0), -1);
        DUE.is("38 bad", x.meet(-1, 0), -1);
        DUE.is("38 bad", x.meet(0, -1), -1);
        DUE.is("38 none came", x.count(6), 0);
        for (int i = 0; i < 12; i++) {
            DUE.is("38 its number", x.meet(i % 2 * 2, i % 2 == 0 ? 1 : 0), i);
        }
        DUE.is("38 full", x.meet(0, 1), -3);
        DUE.is("38 bad ahead of full", x.meet(1, 2), -1);
        DUE.is("38 twelve", x.count(6), 12);
    }

    private static void offset() {
        AtomLadders x = plates(100, 0, 107, 1, 200, 0, 208, 1, 300, 2, 310, 3, 500, 3);
        for (int p = 0; p < 4; p++) {
            DUE.is("39 no meetings", x.offset(p, 0), 0);
            DUE.is("39 no meetings", x.offset(p, 1), 1);
        }
        x.meet(0, 1);
        DUE.is("39 one", x.offset(1, 0), -7);
        DUE.is("39 one", x.offset(1, 1), 1);
        x.meet(3, 2);
        DUE.is("39 half", x.offset(1, 0), -15);
        DUE.is("39 half", x.offset(1, 1), 2);
        x.meet(5, 4);
        DUE.is("39 the least of those that hang together", x.offset(2, 0), 0);
        DUE.is("39 the other", x.offset(3, 0), -10);
        x.meet(6, 1);
        // plate 3 hangs at plate 1: 500 + o3 = 107 - 15/2
        DUE.is("39 through plate 1", x.offset(3, 0), -801);
        DUE.is("39 through plate 1", x.offset(3, 1), 2);
        DUE.is("39 through plate 3", x.offset(2, 0), -781);
        DUE.is("39 bad", x.offset(4, 0), FRACTION_BAD);
        DUE.is("39 bad", x.offset(-1, 0), FRACTION_BAD);
        DUE.is("39 bad", x.offset(0, 2), FRACTION_BAD);
        DUE.is("39 bad", x.offset(0, -1), FRACTION_BAD);
    }

    private static void shift() {
        AtomLadders x = plates(100, 0, 107, 1, 200, 0, 208, 1, 9, 1, 50, 2);
        DUE.is("40 nothing", x.shift(), 0);
        x.meet(0, 1);
        x.meet(2, 3);
        x.height(0, 0);
        DUE.is("40 three lines", x.shift(), 3);
        DUE.is("40 plate 0 stays", x.about(0, 0), 100);
        DUE.is("40 half up", x.about(1, 0), 100);
        DUE.is("40 half up", x.about(3, 0), 201);
        DUE.is("40 in no meeting", x.about(4, 0), 2);
        DUE.is("40 another plate", x.about(5, 0), 50);
        DUE.is("40 meetings stay", x.count(6), 2);
        DUE.is("40 the offset is what is left", x.offset(1, 0), -1);
        DUE.is("40 the offset is what is left", x.offset(1, 1), 2);
        DUE.is("40 half of one down is none", x.shift(), 0);
        DUE.is("40 no act", x.count(8), 0);
        AtomLadders y = plates(108, 0, 100, 1, 207, 0, 200, 1);
        y.meet(0, 1);
        y.meet(2, 3);
        DUE.is("40 upwards", y.shift(), 2);
        DUE.is("40 half up", y.about(1, 0), 108);
        DUE.is("40 half up", y.about(3, 0), 208);
    }

    private static void shiftBounds() {
        AtomLadders x = plates(1, 0, 11, 1, 5, 1, 10, 1, 1, 1);
        x.meet(0, 1);
        DUE.is("40 held to 1", x.shift(), 3);
        DUE.is("40 held to 1", x.about(2, 0), 1);
        DUE.is("40 held to 1", x.about(3, 0), 1);
        DUE.is("40 1 stays", x.about(4, 0), 1);
        AtomLadders y = plates(1000000, 0, 1, 1, 2, 1, 1000000, 1);
        y.meet(1, 0);
        DUE.is("40 held to 1000000", y.shift(), 2);
        DUE.is("40 just", y.about(1, 0), 1000000);
        DUE.is("40 held to 1000000", y.about(2, 0), 1000000);
    }
}
