/** The boundary cases of promises 41 to 44, sentence by sentence. */
public final class BoundsVersionsTest {
    private static final Due DUE = new Due("BoundsVersionsTest");
    private static final Edges EDGES = new Edges(DUE);
    private static final int BAD = -1;
    private static final int FULL = -3;
    private static final int NONE = -4;

    public static void main(String[] args) {
        keepFull();
        keepNothing();
        compareNumbers();
        compareHeights();
        compareGiven();
        compareAlone();
        backNumbers();
        backBoth();
        backForgets();
        undoSix();
        undoRefused();
        undoEachKind();
        undoNewOnes();
        lastCall();
        DUE.end();
    }

    private static AtomLadders some(int levels, int lines) {
        AtomLadders x = new AtomLadders();
        for (int k = 0; k < levels; k++) {
            x.level(100 * k, k % 2, 2);
        }
        for (int n = 0; n < lines; n++) {
            x.line(100, 0, 0);
        }
        return x;
    }

    private static AtomLadders kept(int versions) {
        AtomLadders x = some(2, 2);
        for (int v = 0; v < versions; v++) {
            x.keep();
        }
        return x;
    }

    // ---- 41

    private static void keepFull() {
        AtomLadders x = some(1, 0);
        for (int v = 0; v < 4; v++) {
            x.height(0, 10 * v);
            DUE.is("41 its number", x.keep(), v);
            DUE.is("41 as many", x.count(7), v + 1);
        }
        x.height(0, 999);
        DUE.is("41 the fifth", x.keep(), FULL);
        DUE.is("41 four", x.count(7), 4);
        for (int v = 0; v < 4; v++) {
            DUE.is("41 refused: all are as they were", x.compare(v, 4), 999 - 10 * v);
        }
        DUE.is("41 no ACT", x.count(8), 5);
        x.back(0);
        DUE.is("41 none goes by back()", x.keep(), FULL);
    }

    private static void keepNothing() {
        AtomLadders x = new AtomLadders();
        DUE.is("41 of nothing", x.keep(), 0);
        for (int what = 0; what < 5; what++) {
            DUE.is("42 nothing and nothing", x.compare(0, what), 0);
        }
        DUE.is("43 nothing and nothing", x.back(0), 0);
    }

    // ---- 42

    private static void compareNumbers() {
        for (int what = 0; what < 5; what++) {
            int asked = what;
            EDGES.of("42 the VERSION", 0, 1, v -> kept(2).compare(v, asked), v -> 0, BAD);
            EDGES.of("42 the fourth", 0, 3, v -> kept(4).compare(v, asked), v -> 0, BAD);
            DUE.is("42 none kept", some(2, 2).compare(0, what), BAD);
        }
        EDGES.of("42 what", 0, 4, v -> kept(1).compare(0, v), v -> 0, BAD);
    }

    private static void compareHeights() {
        AtomLadders x = some(8, 0);
        x.keep();
        x.height(0, 0);
        DUE.is("42 the same HEIGHT", x.compare(0, 0), 0);
        x.height(0, 1);
        DUE.is("42 one is unlike", x.compare(0, 0), 1);
        DUE.is("42 by one", x.compare(0, 4), 1);
        x.height(7, 1000000);
        DUE.is("42 the greatest difference", x.compare(0, 4), 999300);
        x.height(7, 0);
        DUE.is("42 without sign", x.compare(0, 4), 700);
        for (int k = 0; k < 8; k++) {
            x.height(k, 555);
        }
        DUE.is("42 all eight", x.compare(0, 0), 8);
        AtomLadders y = some(1, 0);
        y.keep();
        y.height(0, 1000000);
        DUE.is("42 as far as can be", y.compare(0, 4), 1000000);
        y.level(5, 0, 0);
        DUE.is("42 a LEVEL that both do not have", y.compare(0, 0), 1);
    }

    private static void compareGiven() {
        AtomLadders x = some(3, 16);
        x.give(0, 1, 0);
        x.keep();
        x.give(0, 1, 0);
        DUE.is("42 GIVEN to the same", x.compare(0, 1), 0);
        x.give(0, 1, 2);
        DUE.is("42 another l", x.compare(0, 1), 1);
        x.give(0, 0, 1);
        DUE.is("42 the other way", x.compare(0, 1), 1);
        x.take(0);
        DUE.is("42 to nothing", x.compare(0, 1), 1);
        x.give(0, 1, 0);
        DUE.is("42 as it was", x.compare(0, 1), 0);
        for (int n = 0; n < 16; n++) {
            x.give(n, 2, 1);
        }
        DUE.is("42 all sixteen", x.compare(0, 1), 16);
        x.drop();
        DUE.is("42 those that both have", x.compare(0, 1), 15);
    }

    private static void compareAlone() {
        AtomLadders x = new AtomLadders();
        x.keep();
        for (int k = 0; k < 8; k++) {
            x.level(0, k % 2, 2);
            DUE.is("42 LEVELS that one has alone", x.compare(0, 2), k + 1);
        }
        for (int n = 0; n < 16; n++) {
            x.line(1, 0, 0);
            DUE.is("42 LINES that one has alone", x.compare(0, 3), n + 1);
        }
        x.give(0, 1, 0);
        x.height(0, 9);
        DUE.is("42 no LEVELS that both have", x.compare(0, 0), 0);
        DUE.is("42 no LINES that both have", x.compare(0, 1), 0);
        DUE.is("42 no difference", x.compare(0, 4), 0);
        x.keep();
        for (int n = 15; n >= 0; n--) {
            x.drop();
            DUE.is("42 LINES that the VERSION has alone", x.compare(1, 3), 16 - n);
        }
        DUE.is("42 none alone any more", x.compare(0, 3), 0);
        DUE.is("42 no LINES that both have", x.compare(1, 1), 0);
    }

    // ---- 43

    private static void backNumbers() {
        EDGES.of("43 the VERSION", 0, 1, v -> kept(2).back(v), v -> 0, BAD);
        EDGES.of("43 the fourth", 0, 3, v -> kept(4).back(v), v -> 0, BAD);
        DUE.is("43 none kept", some(2, 2).back(0), BAD);
        AtomLadders x = kept(1);
        x.height(0, 9);
        x.give(0, 1, 0);
        EDGES.outside("43 refused", 0, 0, x::back, BAD);
        DUE.is("43 refused: HEIGHT", x.told(0, 0), 9);
        DUE.is("43 refused: GIVEN", x.about(0, 3), 1);
        DUE.is("43 refused: ACTS", x.count(8), 2);
    }

    private static void backBoth() {
        AtomLadders x = some(8, 16);
        x.keep();
        for (int k = 0; k < 8; k++) {
            x.height(k, 100 * k + 1);
        }
        for (int n = 0; n < 16; n++) {
            x.give(n, 1, 0);
        }
        x.keep();
        DUE.is("43 all became others", x.back(0), 24);
        DUE.is("43 none now", x.back(0), 0);
        DUE.is("43 none is GIVEN", x.count(2), 0);
        DUE.is("43 the last HEIGHT", x.told(7, 0), 700);
        x.drop();
        DUE.is("43 those that both have", x.back(1), 23);
        DUE.is("43 no LINE comes", x.count(1), 15);
        AtomLadders y = some(1, 0);
        y.keep();
        y.level(50, 1, 2);
        y.line(5, 0, 0);
        y.give(0, 1, 0);
        DUE.is("43 new ones stay", y.back(0), 0);
        DUE.is("43 new ones stay", y.told(1, 0), 50);
        DUE.is("43 new ones stay GIVEN", y.about(0, 3), 1);
        y.factor(0, 5);
        y.plate(0, 3);
        y.height(0, 7);
        DUE.is("43 a HEIGHT", y.back(0), 1);
        DUE.is("43 FACTORS stay", y.factor(0, 0), 5);
        DUE.is("43 PLATES stay", y.about(0, 5), 3);
        DUE.is("43 PLACES stay", y.about(0, 0), 5);
    }

    private static void backForgets() {
        AtomLadders x = kept(1);
        x.height(0, 9);
        x.settle();
        DUE.is("43 ACTS", x.count(8), 2);
        DUE.is("43 back", x.back(0), 1);
        DUE.is("43 no ACT, ACTS are none", x.count(8), 0);
        DUE.is("43 nothing can be undone", x.undo(), NONE);
        x.height(0, 9);
        DUE.is("43 a new ACT", x.count(8), 1);
        x.undo();
        x.settle();
        DUE.is("43 though nothing became another", x.back(0), 0);
        DUE.is("43 ACTS are none", x.count(8), 0);
    }

    // ---- 44

    private static void undoSix() {
        for (int acts = 0; acts <= 13; acts++) {
            AtomLadders x = some(1, 0);
            for (int i = 1; i <= acts; i++) {
                x.height(0, i);
            }
            int can = Math.min(acts, 6);
            DUE.is("44 the latest 6 of " + acts, x.count(8), can);
            for (int i = 1; i <= can; i++) {
                DUE.is("44 how many more", x.undo(), can - i);
                DUE.is("44 as it was ahead of it", x.told(0, 0), acts - i);
            }
            DUE.is("44 none more", x.undo(), NONE);
            DUE.is("44 refused: what it was", x.told(0, 0), acts - can);
            DUE.is("44 none", x.count(8), 0);
        }
        AtomLadders y = some(1, 0);
        for (int i = 1; i <= 8; i++) {
            y.height(0, i);
        }
        y.undo();
        y.undo();
        y.height(0, 100);
        y.height(0, 101);
        y.height(0, 102);
        DUE.is("44 six again", y.count(8), 6);
        int[] due = {101, 100, 6, 5, 4, 3};
        for (int i = 0; i < 6; i++) {
            y.undo();
            DUE.is("44 undone ones are gone", y.told(0, 0), due[i]);
        }
    }

    private static void undoRefused() {
        AtomLadders x = some(2, 1);
        x.height(9, 9);
        x.height(0, -1);
        x.give(9, 1, 0);
        x.give(0, 9, 0);
        x.give(0, 0, 0);
        x.take(9);
        x.take(0);
        DUE.is("44 those that were refused are none", x.count(8), 0);
        DUE.is("44 none", x.undo(), NONE);
    }

    private static void undoEachKind() {
        AtomLadders x = some(2, 2);
        x.height(1, 101);
        x.give(0, 1, 0);
        x.take(0);
        x.height(1, 100);
        x.giveAll();
        x.height(1, 105);
        DUE.is("44 six", x.count(8), 6);
        x.settle();
        DUE.is("44 settled", x.told(1, 0), 100);
        DUE.is("44 settle()", x.undo(), 5);
        DUE.is("44 settle()", x.told(1, 0), 105);
        DUE.is("44 height()", x.undo(), 4);
        DUE.is("44 height()", x.told(1, 0), 100);
        DUE.is("44 given", x.count(2), 2);
        DUE.is("44 giveAll()", x.undo(), 3);
        DUE.is("44 giveAll()", x.count(2), 0);
        DUE.is("44 height()", x.undo(), 2);
        DUE.is("44 take()", x.undo(), 1);
        DUE.is("44 take()", x.about(0, 3), 1);
        DUE.is("44 give()", x.undo(), 0);
        DUE.is("44 give()", x.about(0, 3), NONE);
        DUE.is("44 the first went", x.undo(), NONE);
        DUE.is("44 the first went", x.told(1, 0), 101);
        AtomLadders y = some(2, 1);
        y.height(0, 0);
        y.settle();
        y.giveAll();
        y.giveAll();
        y.give(0, 1, 0);
        DUE.is("44 each, whether something became another one or not", y.count(8), 5);
        // no other call is an ACT
        y.level(0, 0, 0);
        y.line(5, 0, 0);
        y.factor(0, 3);
        y.plate(1, 1);
        y.meet(0, 1);
        y.shift();
        y.keep();
        y.sheet(0, 0, 3);
        y.lay(0, 0, 1);
        y.scan(0, 0, 0, 1);
        y.feed(0);
        y.shells();
        DUE.is("44 no other call is one", y.count(8), 5);
    }

    private static void undoNewOnes() {
        AtomLadders x = some(2, 1);
        x.height(0, 5);
        x.level(7, 1, 2);
        x.line(9, 0, 0);
        x.sheet(0, 0, 3);
        for (int i = 0; i < 3; i++) {
            x.lay(0, i, 4);
        }
        x.scan(0, 0, 0, 1);
        x.give(2, 2, 0);
        x.height(2, 8);
        x.give(1, 2, 0);
        DUE.is("44 give()", x.undo(), 3);
        DUE.is("44 height() of a new LEVEL", x.undo(), 2);
        DUE.is("44 height() of a new LEVEL", x.told(2, 0), 7);
        DUE.is("44 give() of a new LINE", x.undo(), 1);
        DUE.is("44 give() of a new LINE", x.about(2, 3), NONE);
        x.undo();
        DUE.is("44 LEVELS that came since", x.count(0), 3);
        DUE.is("44 LEVELS that came since", x.told(2, 0), 7);
        DUE.is("44 LINES that came since", x.count(1), 3);
        DUE.is("44 LINES that came since", x.about(2, 0), 4);
    }

    /** An object is used for 512 calls: the last one answers as the first. */
    private static void lastCall() {
        AtomLadders x = some(2, 0);
        for (int i = 0; i < 509; i++) {
            x.height(0, i);
        }
        DUE.is("the 512th call", x.undo(), 5);
    }
}
