import java.util.ArrayList;
import java.util.List;

/**
 * Objects in states of several kinds, each always made by the same calls, and views of all that can be seen of a state.
 * A view may use the object up; a state and a view together stay below 512 calls.
 */
final class States {
    private States() {
    }

    static AtomLadders empty() {
        return new AtomLadders();
    }

    /** Something of all, and room for more of all. */
    static AtomLadders some() {
        AtomLadders x = new AtomLadders();
        int[][] levels = {{1000, 0, 2, 3}, {1100, 1, 2, -5}, {1300, 0, 4, 7}, {1700, 1, 4, 0}, {50, 0, 0, 100}};
        for (int[] k : levels) {
            x.factor(x.level(k[0], k[1], k[2]), k[3]);
        }
        int[][] lines = {{100, 3, 1, 0}, {200, 0, 2, 1}, {405, 5, 3, 2}, {777, 9, 4, 1}, {13, 0, 5, 3}, {250, 1, 6, 0}};
        for (int[] n : lines) {
            x.plate(x.line(n[0], n[1], n[2]), n[3]);
        }
        x.meet(0, 1);
        x.meet(2, 1);
        x.give(0, 1, 0);
        x.give(1, 2, 1);
        x.keep();
        x.height(4, 60);
        x.keep();
        x.give(2, 3, 2);
        x.take(1);
        x.height(0, 1001);
        told(x, "2p^3", "x", "4f^2 9");
        sheets(x, 6);
        return x;
    }

    /** As many as there can be of all, but for SHEET 3, which has nothing. */
    static AtomLadders full() {
        AtomLadders x = new AtomLadders();
        for (int k = 0; k < 8; k++) {
            x.factor(x.level(1000 + 100 * k, k % 2, 2), 10 * k - 35);
        }
        for (int n = 0; n < 16; n++) {
            x.plate(x.line(100 + n, n, 999 - n), n % 4);
        }
        for (int i = 0; i < 12; i++) {
            x.meet(i, i + 1);
        }
        for (int n = 0; n < 12; n++) {
            x.give(n, 1 + n % 7, n % 7);
        }
        for (int v = 0; v < 4; v++) {
            x.keep();
            x.height(v, 900 + v);
        }
        x.take(3);
        x.take(4);
        x.height(7, 1000000);
        x.give(12, 2, 3);
        told(x, "1s 2s 3p^4 4f^6", "1s 2s 1s", " ".repeat(74) + "1s 2p^");
        sheets(x, 60);
        return x;
    }

    /** A good text, then one with a FAULT, then one that stays on THE TAPE. */
    private static void told(AtomLadders x, String good, String bad, String left) {
        Due.text(x, good);
        x.shells();
        Due.text(x, bad);
        x.shells();
        Due.text(x, left);
    }

    /** SHEETS 0 to 2 of lanes 0 to 2, the first and the last CELLS numbers that line() takes. */
    private static void sheets(AtomLadders x, int size) {
        for (int k = 0; k < 3; k++) {
            x.sheet(k, k, size);
            for (int i = 0; i < 3; i++) {
                x.lay(k, i, 10 * k + i + 1);
                x.lay(k, size - 3 + i, 40 + 10 * k + i);
            }
        }
    }

    /** A view: what it sees, in its order. */
    interface View {
        void look(AtomLadders x, List<Long> seen);
    }

    static View[] views() {
        return new View[] {States::counts, States::levelsAndLines, States::versions, States::acts, States::shells,
            States::sheetsAndFactors};
    }

    static List<Long> seen(View view, AtomLadders x) {
        List<Long> seen = new ArrayList<>();
        view.look(x, seen);
        return seen;
    }

    private static void counts(AtomLadders x, List<Long> seen) {
        for (int what = 0; what < 10; what++) {
            seen.add((long) x.count(what));
        }
        seen.add((long) x.fault());
        for (int p = 0; p < 4; p++) {
            seen.add(x.offset(p, 0));
            seen.add(x.offset(p, 1));
        }
        for (int n = 0; n < 16; n++) {
            // in a MEETING: STATE
            seen.add((long) x.plate(n, Math.max(0, x.about(n, 5))));
        }
        for (int u = 0; u < 8; u++) {
            for (int l = 0; l < 8; l++) {
                seen.add((long) x.pattern(u, l, 0));
            }
        }
    }

    private static void levelsAndLines(AtomLadders x, List<Long> seen) {
        for (int k = 0; k < 8; k++) {
            for (int what = 0; what < 5; what++) {
                seen.add((long) x.told(k, what));
            }
        }
        for (int n = 0; n < 16; n++) {
            for (int what = 0; what < 6; what++) {
                seen.add((long) x.about(n, what));
            }
        }
        seen.add((long) x.closes());
        seen.add((long) x.barred());
        seen.add((long) x.foretold());
        for (int k = 0; k < 8; k++) {
            seen.add(x.best(k, 0));
            seen.add(x.best(k, 1));
        }
    }

    /** HEIGHTS, and to what LINES are GIVEN. */
    private static void kept(AtomLadders x, List<Long> seen) {
        for (int k = 0; k < 8; k++) {
            seen.add((long) x.told(k, 0));
        }
        for (int n = 0; n < 16; n++) {
            seen.add((long) x.about(n, 3));
            seen.add((long) x.about(n, 4));
        }
    }

    private static void versions(AtomLadders x, List<Long> seen) {
        for (int v = 0; v < 4; v++) {
            for (int what = 0; what < 5; what++) {
                seen.add((long) x.compare(v, what));
            }
        }
        for (int v = 3; v >= 0; v--) {
            seen.add((long) x.back(v));
            kept(x, seen);
        }
    }

    private static void acts(AtomLadders x, List<Long> seen) {
        seen.add((long) x.count(8));
        for (int i = 0; i < 7; i++) {
            seen.add((long) x.undo());
            kept(x, seen);
        }
    }

    private static void told(AtomLadders x, List<Long> seen) {
        for (int m = -3; m <= 3; m++) {
            for (int h = -2; h <= 3; h++) {
                seen.add(x.fillings(m, h));
            }
        }
        for (int i = 0; i < 5; i++) {
            seen.add(x.term(i, 0));
            seen.add(x.term(i, 2));
            seen.add(x.spins(i));
        }
        seen.add(x.missing(0));
        seen.add(x.missing(1));
        seen.add((long) x.count(9));
        seen.add((long) x.fault());
    }

    /** The shells, and what THE TAPE's text tells, also with the rest of a shell behind it. */
    private static void shells(AtomLadders x, List<Long> seen) {
        seen.add((long) x.count(5));
        told(x, seen);
        seen.add((long) x.feed(0x70202020_20202020L));
        seen.add((long) x.shells());
        told(x, seen);
    }

    private static void sheetsAndFactors(AtomLadders x, List<Long> seen) {
        seen.add((long) x.drop());
        for (int k = 0; k < 4; k++) {
            for (int lane = 0; lane < 3; lane++) {
                long there = x.scan(k, lane, 0, 0);
                seen.add(there);
                if (there >= 0) {
                    cells(x, k, lane, seen);
                }
            }
        }
        for (int k = 0; k < 8; k++) {
            seen.add((long) x.factor(k, 0));
        }
    }

    private static void cells(AtomLadders x, int k, int lane, List<Long> seen) {
        for (int f : new int[] {0, 3, 5, 6, 57, 59, 60}) {
            seen.add((long) x.match(k, lane, f, 1, 0));
            int now = x.count(1);
            long then = x.scan(k, lane, f, 1);
            seen.add(then);
            if (then > now) {
                for (int what = 0; what < 3; what++) {
                    seen.add((long) x.about(now, what));
                }
                x.drop();
            }
        }
    }
}
