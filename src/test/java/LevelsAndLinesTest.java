/** Promises 1 to 13: a new object, level, height, told, line, drop, about, allowed, fits, fit, give, take, giveAll. */
public final class LevelsAndLinesTest {
    private static final Due DUE = new Due("LevelsAndLinesTest");
    private static final int LEAST = Integer.MIN_VALUE;
    private static final int MOST = Integer.MAX_VALUE;

    public static void main(String[] args) {
        newObject();
        level();
        height();
        told();
        line();
        drop();
        about();
        allowed();
        fits();
        give();
        take();
        giveAll();
        DUE.end();
    }

    private static void newObject() {
        AtomLadders x = new AtomLadders();
        for (int what = 0; what <= 9; what++) {
            DUE.is("1 count(" + what + ")", x.count(what), what == 4 ? -4 : 0);
        }
        for (int k = 0; k < 4; k++) {
            DUE.is("1 lay on nothing", x.lay(k, 0, 0), -11);
            DUE.is("1 scan of nothing", x.scan(k, 0, 0, 0), -11);
        }
        DUE.is("1 told(0, 0)", x.told(0, 0), -1);
        DUE.is("1 about(0, 0)", x.about(0, 0), -1);
        DUE.is("1 fault()", x.fault(), 0);
        DUE.is("1 fillings", x.fillings(0, 0), -2);
        DUE.is("1 drop()", x.drop(), -4);
        DUE.is("1 undo()", x.undo(), -4);
        DUE.is("1 settle()", x.settle(), 0);
        DUE.is("1 shift()", x.shift(), 0);
        DUE.is("1 giveAll()", x.giveAll(), 0);
        DUE.is("1 back(0)", x.back(0), -1);
    }

    private static void level() {
        AtomLadders x = new AtomLadders();
        int[][] bad = {{-1, 0, 0}, {1000001, 0, 0}, {0, -1, 0}, {0, 2, 0}, {0, 0, -1}, {0, 0, 10},
            {LEAST, 0, 0}, {MOST, 0, 0}, {0, LEAST, 0}, {0, MOST, 0}, {0, 0, LEAST}, {0, 0, MOST}};
        for (int[] b : bad) {
            DUE.is("2 level bad", x.level(b[0], b[1], b[2]), -1);
        }
        DUE.is("2 nothing came", x.count(0), 0);
        for (int k = 0; k < 8; k++) {
            DUE.is("2 level", x.level(k % 2 * 1000000, k % 2, k % 2 * 9), k);
        }
        DUE.is("2 level full", x.level(0, 0, 0), -3);
        DUE.is("2 level bad ahead of full", x.level(0, 0, 10), -1);
        DUE.is("2 eight", x.count(0), 8);
        DUE.is("2 height", x.told(7, 0), 1000000);
        DUE.is("2 side", x.told(7, 1), 1);
        DUE.is("2 spin", x.told(7, 2), 9);
    }

    private static void height() {
        AtomLadders x = new AtomLadders();
        DUE.is("3 no level", x.height(0, 5), -1);
        x.level(7, 0, 0);
        DUE.is("3 height", x.height(0, 0), 7);
        DUE.is("3 height", x.height(0, 1000000), 0);
        DUE.is("3 same", x.height(0, 1000000), 1000000);
        DUE.is("3 bad", x.height(0, -1), -1);
        DUE.is("3 bad", x.height(0, 1000001), -1);
        DUE.is("3 bad", x.height(1, 0), -1);
        DUE.is("3 bad", x.height(-1, 0), -1);
        DUE.is("3 stays", x.told(0, 0), 1000000);
        DUE.is("3 acts", x.count(8), 3);
    }

    private static AtomLadders chain() {
        AtomLadders x = new AtomLadders();
        x.level(0, 0, 2);
        x.level(100, 1, 2);
        x.level(300, 0, 4);
        x.level(700, 1, 6);
        x.level(700, 1, 0);
        x.line(100, 0, 1);
        x.line(200, 0, 2);
        x.line(401, 1, 3);
        return x;
    }

    private static void told() {
        AtomLadders x = chain();
        x.give(2, 3, 2);
        DUE.is("4 part", x.told(3, 3), 2);
        DUE.is("4 part", x.told(2, 3), 2);
        DUE.is("4 part", x.told(4, 3), 4);
        x.give(1, 2, 1);
        DUE.is("4 part", x.told(3, 3), 1);
        x.give(0, 1, 0);
        DUE.is("4 part", x.told(3, 3), 0);
        DUE.is("4 given", x.told(0, 4), 1);
        DUE.is("4 given", x.told(1, 4), 2);
        DUE.is("4 given", x.told(2, 4), 2);
        DUE.is("4 given", x.told(3, 4), 1);
        DUE.is("4 given", x.told(4, 4), 0);
        x.take(1);
        DUE.is("4 part", x.told(1, 3), 0);
        DUE.is("4 part", x.told(2, 3), 2);
        DUE.is("4 bad", x.told(5, 0), -1);
        DUE.is("4 bad", x.told(-1, 0), -1);
        DUE.is("4 bad", x.told(0, -1), -1);
        DUE.is("4 bad", x.told(0, 5), -1);
    }

    private static void line() {
        AtomLadders x = new AtomLadders();
        int[][] bad = {{0, 0, 0}, {1000001, 0, 0}, {1, -1, 0}, {1, 1001, 0}, {1, 0, -1}, {1, 0, 1000},
            {LEAST, 0, 0}, {MOST, 0, 0}, {1, LEAST, 0}, {1, MOST, 0}, {1, 0, LEAST}, {1, 0, MOST}};
        for (int[] b : bad) {
            DUE.is("5 line bad", x.line(b[0], b[1], b[2]), -1);
        }
        DUE.is("5 nothing came", x.count(1), 0);
        for (int n = 0; n < 16; n++) {
            DUE.is("5 line", x.line(n % 2 == 0 ? 1 : 1000000, n % 2 * 1000, n % 2 * 999), n);
        }
        DUE.is("5 full", x.line(1, 0, 0), -3);
        DUE.is("5 bad ahead of full", x.line(0, 0, 0), -1);
        DUE.is("5 sixteen", x.count(1), 16);
    }

    private static void drop() {
        AtomLadders x = chain();
        x.give(2, 3, 2);
        x.plate(2, 3);
        x.height(0, 1);
        DUE.is("6 acts", x.count(8), 2);
        DUE.is("6 drop", x.drop(), 2);
        DUE.is("6 no acts", x.count(8), 0);
        DUE.is("6 gone", x.about(2, 0), -1);
        DUE.is("6 not given", x.count(2), 0);
        DUE.is("6 new one", x.line(9, 8, 7), 2);
        DUE.is("6 given to nothing", x.about(2, 3), -4);
        DUE.is("6 plate 0", x.about(2, 5), 0);
        x.plate(2, 1);
        x.meet(0, 2);
        x.height(0, 2);
        DUE.is("6 in a meeting", x.drop(), -2);
        DUE.is("6 acts stay", x.count(8), 1);
        DUE.is("6 stays", x.count(1), 3);
        x.line(5, 5, 5);
        DUE.is("6 drop", x.drop(), 3);
        DUE.is("6 second of a meeting", x.drop(), -2);
        AtomLadders y = new AtomLadders();
        y.line(5, 5, 5);
        y.line(5, 5, 5);
        y.plate(0, 1);
        y.meet(1, 0);
        DUE.is("6 first of a meeting", y.drop(), -2);
        DUE.is("6 none", new AtomLadders().drop(), -4);
    }

    private static void about() {
        AtomLadders x = chain();
        DUE.is("7 place", x.about(2, 0), 401);
        DUE.is("7 end", x.about(2, 1), 1);
        DUE.is("7 strength", x.about(2, 2), 3);
        DUE.is("7 u", x.about(2, 3), -4);
        DUE.is("7 l", x.about(2, 4), -4);
        DUE.is("7 plate", x.about(2, 5), 0);
        x.give(2, 3, 2);
        x.plate(2, 3);
        DUE.is("7 u", x.about(2, 3), 3);
        DUE.is("7 l", x.about(2, 4), 2);
        DUE.is("7 plate", x.about(2, 5), 3);
        DUE.is("7 bad", x.about(3, 0), -1);
        DUE.is("7 bad", x.about(-1, 0), -1);
        DUE.is("7 bad", x.about(0, -1), -1);
        DUE.is("7 bad", x.about(0, 6), -1);
    }

    private static void allowed() {
        int[][] steps = {{0, 2, 1, 2, 1}, {0, 2, 0, 2, 0}, {0, 2, 1, 4, 1}, {0, 4, 1, 2, 1}, {0, 0, 1, 0, 0},
            {0, 0, 1, 2, 1}, {0, 1, 1, 2, 0}, {0, 2, 1, 6, 0}, {0, 9, 1, 9, 1}, {1, 1, 0, 1, 1}, {1, 3, 0, 4, 0},
            {1, 1, 1, 3, 0}};
        for (int[] s : steps) {
            AtomLadders x = new AtomLadders();
            x.level(0, s[0], s[1]);
            x.level(0, s[2], s[3]);
            DUE.is("8 allowed", x.allowed(0, 1), s[4]);
            DUE.is("8 allowed", x.allowed(1, 0), s[4]);
            DUE.is("8 itself", x.allowed(0, 0), 0);
            DUE.is("8 bad", x.allowed(0, 2), -1);
            DUE.is("8 bad", x.allowed(2, 0), -1);
            DUE.is("8 bad", x.allowed(-1, 0), -1);
            DUE.is("8 bad", x.allowed(0, -1), -1);
        }
    }

    private static void fits() {
        AtomLadders x = new AtomLadders();
        x.level(10, 0, 2);
        x.level(12, 1, 2);
        x.level(15, 1, 4);
        x.level(12, 0, 2);
        x.line(1, 3, 0);
        // gaps from -2 to 4 fit: (0, 1) -2, (1, 0) 2, (1, 3) 0, (2, 3) 3, (3, 1) 0; not (2, 0) 5, (3, 2) -3
        DUE.is("9 fits", x.fits(0), 5);
        int[] due = {1, 8, 11, 19, 25};
        for (int i = 0; i < due.length; i++) {
            DUE.is("10 fit " + i, x.fit(0, i), due[i]);
        }
        DUE.is("10 none", x.fit(0, 5), -4);
        DUE.is("10 none", x.fit(0, MOST), -4);
        DUE.is("10 bad", x.fit(0, -1), -1);
        DUE.is("10 bad", x.fit(0, LEAST), -1);
        DUE.is("10 bad", x.fit(1, 0), -1);
        DUE.is("10 bad", x.fit(-1, 0), -1);
        DUE.is("9 bad", x.fits(1), -1);
        DUE.is("9 bad", x.fits(-1), -1);
        x.line(7, 2, 0);
        DUE.is("9 just", x.fits(1), 1);
        DUE.is("10 just", x.fit(1, 0), 16);
        x.line(8, 2, 0);
        DUE.is("9 just not", x.fits(2), 0);
        x.give(1, 1, 0);
        DUE.is("9 given or not", x.fits(1), 1);
    }

    private static void give() {
        AtomLadders x = chain();
        DUE.is("11 give", x.give(0, 1, 0), 1);
        DUE.is("11 another", x.give(0, 0, 1), 1);
        DUE.is("11 u", x.about(0, 3), 0);
        DUE.is("11 l", x.about(0, 4), 1);
        DUE.is("11 not allowed", x.give(0, 0, 3), -2);
        DUE.is("11 itself", x.give(0, 0, 0), -2);
        DUE.is("11 stays", x.about(0, 4), 1);
        DUE.is("11 bad", x.give(3, 1, 0), -1);
        DUE.is("11 bad", x.give(-1, 1, 0), -1);
        DUE.is("11 bad", x.give(0, 5, 0), -1);
        DUE.is("11 bad", x.give(0, 0, 5), -1);
        DUE.is("11 bad", x.give(0, -1, 0), -1);
        DUE.is("11 bad", x.give(0, 0, -1), -1);
        DUE.is("11 acts", x.count(8), 2);
        DUE.is("11 given", x.count(2), 1);
    }

    private static void take() {
        AtomLadders x = chain();
        DUE.is("12 state", x.take(0), -2);
        x.give(0, 1, 0);
        DUE.is("12 take", x.take(0), 1);
        DUE.is("12 u", x.about(0, 3), -4);
        DUE.is("12 l", x.about(0, 4), -4);
        DUE.is("12 state", x.take(0), -2);
        DUE.is("12 bad", x.take(3), -1);
        DUE.is("12 bad", x.take(-1), -1);
        DUE.is("12 acts", x.count(8), 2);
    }

    private static void giveAll() {
        AtomLadders x = chain();
        x.line(100, 0, 9);
        x.line(2, 2, 9);
        x.level(100, 0, 0);
        x.level(102, 1, 2);
        // line 4 now fits (6, 5), (1, 5) and (5, 1); lines 0, 1, 2 fit one STEP each
        x.give(3, 6, 5);
        DUE.is("13 giveAll", x.giveAll(), 3);
        DUE.is("13 line 0", x.about(0, 3) * 8 + x.about(0, 4), 8);
        DUE.is("13 line 1", x.about(1, 3) * 8 + x.about(1, 4), 17);
        DUE.is("13 line 2", x.about(2, 3) * 8 + x.about(2, 4), 26);
        DUE.is("13 line 3 stays", x.about(3, 3) * 8 + x.about(3, 4), 53);
        DUE.is("13 line 4 fits three", x.about(4, 3), -4);
        DUE.is("13 line 4 fits three", x.fits(4), 3);
        DUE.is("13 again", x.giveAll(), 0);
        DUE.is("13 acts", x.count(8), 3);
    }
}
