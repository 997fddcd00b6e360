/** Promises 41 to 44: keep, compare, back, undo. */
public final class VersionsTest {
    private static final Due DUE = new Due("VersionsTest");

    public static void main(String[] args) {
        keep();
        compare();
        compareDropped();
        back();
        undo();
        undoKinds();
        undoAndNewOnes();
        DUE.end();
    }

    private static AtomLadders some() {
        AtomLadders x = new AtomLadders();
        x.level(0, 0, 2);
        x.level(100, 1, 2);
        x.level(300, 0, 4);
        x.line(100, 0, 0);
        x.line(200, 0, 0);
        return x;
    }

    private static void keep() {
        AtomLadders x = new AtomLadders();
        for (int v = 0; v < 4; v++) {
            DUE.is("41 keep", x.keep(), v);
            x.level(v, 0, 0);
        }
        DUE.is("41 full", x.keep(), -3);
        DUE.is("41 four", x.count(7), 4);
        for (int v = 0; v < 4; v++) {
            DUE.is("41 each its own", x.compare(v, 2), 4 - v);
        }
    }

    private static void compared(AtomLadders x, int v, int... due) {
        for (int what = 0; what < 5; what++) {
            DUE.is("42 compare " + what, x.compare(v, what), due[what]);
        }
    }

    private static void compare() {
        AtomLadders x = some();
        DUE.is("42 bad", x.compare(0, 0), -1);
        x.give(0, 1, 0);
        x.keep();
        compared(x, 0, 0, 0, 0, 0, 0);
        x.height(0, 7);
        compared(x, 0, 1, 0, 0, 0, 7);
        x.height(2, 290);
        compared(x, 0, 2, 0, 0, 0, 10);
        x.give(0, 0, 1);
        compared(x, 0, 2, 1, 0, 0, 10);
        x.give(0, 1, 2);
        compared(x, 0, 2, 1, 0, 0, 10);
        x.take(0);
        x.give(1, 2, 1);
        compared(x, 0, 2, 2, 0, 0, 10);
        x.level(5, 0, 0);
        x.line(5, 0, 0);
        x.line(6, 0, 0);
        x.give(2, 1, 0);
        compared(x, 0, 2, 2, 1, 2, 10);
        x.give(0, 1, 0);
        x.take(1);
        compared(x, 0, 2, 0, 1, 2, 10);
        x.factor(0, 9);
        x.plate(0, 2);
        compared(x, 0, 2, 0, 1, 2, 10);
        DUE.is("42 bad", x.compare(-1, 0), -1);
        DUE.is("42 bad", x.compare(1, 0), -1);
        DUE.is("42 bad", x.compare(0, -1), -1);
        DUE.is("42 bad", x.compare(0, 5), -1);
    }

    private static void compareDropped() {
        AtomLadders x = some();
        x.give(1, 2, 1);
        x.give(0, 1, 0);
        x.keep();
        x.drop();
        compared(x, 0, 0, 0, 0, 1, 0);
        DUE.is("43 back", x.back(0), 0);
        x.take(0);
        DUE.is("43 what both have", x.back(0), 1);
        DUE.is("43 what both have", x.about(0, 3), 1);
        DUE.is("43 no line comes", x.count(1), 1);
        x.line(9, 0, 0);
        compared(x, 0, 0, 1, 0, 0, 0);
        DUE.is("43 by its number", x.back(0), 1);
        DUE.is("43 by its number", x.about(1, 3), 2);
    }

    private static void back() {
        AtomLadders x = some();
        DUE.is("43 bad", x.back(0), -1);
        x.give(0, 1, 0);
        x.keep();
        x.height(0, 5);
        x.height(1, 6);
        x.take(0);
        x.give(1, 2, 1);
        x.level(8, 1, 0);
        x.line(9, 9, 9);
        x.give(2, 2, 1);
        x.height(3, 9);
        x.keep();
        DUE.is("43 bad", x.back(2), -1);
        DUE.is("43 bad", x.back(-1), -1);
        DUE.is("43 acts stay", x.count(8), 6);
        DUE.is("43 back", x.back(0), 4);
        DUE.is("43 height", x.told(0, 0), 0);
        DUE.is("43 height", x.told(1, 0), 100);
        DUE.is("43 given", x.about(0, 3), 1);
        DUE.is("43 given", x.about(0, 4), 0);
        DUE.is("43 not given", x.about(1, 3), -4);
        DUE.is("43 new ones stay", x.about(2, 3), 2);
        DUE.is("43 new ones stay", x.told(3, 0), 9);
        DUE.is("43 no acts", x.count(8), 0);
        DUE.is("43 no acts", x.undo(), -4);
        DUE.is("43 again", x.back(0), 0);
        DUE.is("43 the other", x.back(1), 4);
        DUE.is("43 the other", x.told(1, 0), 6);
    }

    private static void undo() {
        AtomLadders x = some();
        DUE.is("44 none", x.undo(), -4);
        for (int i = 1; i <= 9; i++) {
            x.height(0, i);
            DUE.is("44 acts", x.count(8), Math.min(i, 6));
        }
        for (int i = 5; i >= 0; i--) {
            DUE.is("44 more", x.undo(), i);
            DUE.is("44 height", x.told(0, 0), 3 + i);
        }
        DUE.is("44 none", x.undo(), -4);
        DUE.is("44 stays", x.told(0, 0), 3);
        x.height(0, 50);
        x.height(0, 60);
        DUE.is("44 again", x.undo(), 1);
        x.height(0, 70);
        DUE.is("44 again", x.undo(), 1);
        DUE.is("44 again", x.told(0, 0), 50);
        DUE.is("44 again", x.undo(), 0);
        DUE.is("44 again", x.told(0, 0), 3);
    }

    private static void undoKinds() {
        AtomLadders x = some();
        x.height(0, 0);
        DUE.is("44 the same height", x.count(8), 1);
        DUE.is("44 undone", x.undo(), 0);
        x.give(0, 1, 0);
        x.give(0, 0, 1);
        x.take(0);
        x.height(1, 100);
        x.giveAll();
        x.settle();
        DUE.is("44 six", x.count(8), 6);
        x.give(0, 0, 2);
        x.give(9, 0, 1);
        x.take(9);
        x.height(9, 9);
        x.height(0, -1);
        DUE.is("44 bad ones are none", x.count(8), 6);
        DUE.is("44 giveAll gave", x.count(2), 2);
        DUE.is("44 settle", x.undo(), 5);
        DUE.is("44 giveAll", x.undo(), 4);
        DUE.is("44 giveAll", x.count(2), 0);
        DUE.is("44 height", x.undo(), 3);
        DUE.is("44 take", x.undo(), 2);
        DUE.is("44 take", x.about(0, 3), 0);
        DUE.is("44 give", x.undo(), 1);
        DUE.is("44 give", x.about(0, 3), 1);
        DUE.is("44 give", x.undo(), 0);
        DUE.is("44 give", x.about(0, 3), -4);
        DUE.is("44 take refused", x.take(0), -2);
        DUE.is("44 refused is none", x.count(8), 0);
        DUE.is("44 nothing given", x.giveAll() >= 0 && x.giveAll() == 0 ? x.count(8) : -99, 2);
        DUE.is("44 nothing settled", x.settle() == 0 ? x.count(8) : -99, 3);
    }

    private static void undoAndNewOnes() {
        AtomLadders x = some();
        x.height(0, 5);
        x.level(77, 1, 2);
        x.line(88, 0, 0);
        x.factor(0, 4);
        x.plate(0, 3);
        x.give(2, 3, 0);
        DUE.is("44 undo give", x.undo(), 1);
        DUE.is("44 not given", x.about(2, 3), -4);
        DUE.is("44 undo height", x.undo(), 0);
        DUE.is("44 height", x.told(0, 0), 0);
        DUE.is("44 level stays", x.told(3, 0), 77);
        DUE.is("44 line stays", x.about(2, 0), 88);
        DUE.is("44 factor stays", x.factor(0, 0), 4);
        DUE.is("44 plate stays", x.about(0, 5), 3);
    }
}
