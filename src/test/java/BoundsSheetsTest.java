/** The boundary cases of promises 45 to 48, sentence by sentence. */
public final class BoundsSheetsTest {
    private static final Due DUE = new Due("BoundsSheetsTest");
    private static final Edges EDGES = new Edges(DUE);
    private static final int LEAST = Integer.MIN_VALUE;
    private static final int MOST = Integer.MAX_VALUE;
    private static final int BAD = -1;
    private static final int NONE = -4;
    private static final int NULL_FAULT = -11;
    private static final int INDEX_FAULT = -12;
    private static final int CAST_FAULT = -13;
    private static final int SIZE_FAULT = -14;

    public static void main(String[] args) {
        sheetNumbers();
        sheetSize();
        sheetAnew();
        layNumbers();
        layFaults();
        bytes();
        shorts();
        ints();
        neighbours();
        scanNumbers();
        scanFaults();
        scanFrom();
        scanRefused();
        scanFull();
        scanNoneCame();
        countNumbers();
        countEmpty();
        countFull();
        countSheet();
        DUE.end();
    }

    private static AtomLadders of(int lane, int size, int... cells) {
        AtomLadders x = new AtomLadders();
        x.sheet(0, lane, size);
        for (int i = 0; i < cells.length; i++) {
            x.lay(0, i, cells[i]);
        }
        return x;
    }

    /** All CELLS the same number. */
    private static AtomLadders all(int lane, int size, int v) {
        AtomLadders x = of(lane, size);
        for (int i = 0; i < size; i++) {
            x.lay(0, i, v);
        }
        return x;
    }

    // ---- 45

    private static void sheetNumbers() {
        EDGES.of("45 k", 0, 3, v -> new AtomLadders().sheet(v, 0, 5), v -> 1, BAD);
        EDGES.of("45 lane", 0, 2, v -> new AtomLadders().sheet(0, v, 5), v -> 1, BAD);
        for (int lane = 0; lane < 3; lane++) {
            for (int n : new int[] {0, 1, 59, 60}) {
                AtomLadders x = new AtomLadders();
                DUE.is("45 CELLS " + n, x.sheet(0, lane, n), 1);
                DUE.is("45 CELLS " + n, x.count(4), n);
            }
            for (int n : new int[] {61, 62, 1000, MOST - 1, MOST}) {
                AtomLadders x = new AtomLadders();
                DUE.is("45 n above 60: " + n, x.sheet(0, lane, n), BAD);
                DUE.is("45 nothing came", x.count(4), NONE);
            }
            for (int n : new int[] {-1, -2, -60, LEAST + 1, LEAST}) {
                AtomLadders x = new AtomLadders();
                DUE.is("45 SIZE " + n, x.sheet(0, lane, n), SIZE_FAULT);
                DUE.is("45 nothing came", x.count(4), NONE);
            }
        }
    }

    private static void sheetSize() {
        EDGES.outside("45 k ahead of SIZE", 0, 3, v -> new AtomLadders().sheet(v, 0, -1), BAD);
        EDGES.outside("45 lane ahead of SIZE", 0, 2, v -> new AtomLadders().sheet(0, v, -1), BAD);
        AtomLadders x = all(1, 6, 5);
        DUE.is("45 refused", x.sheet(0, 2, -1), SIZE_FAULT);
        DUE.is("45 refused", x.sheet(0, 2, 61), BAD);
        DUE.is("45 refused", x.sheet(0, 3, 5), BAD);
        DUE.is("45 CELLS stay", x.count(4), 6);
        DUE.is("45 the lane stays", x.scan(0, 2, 0, 1), CAST_FAULT);
        DUE.is("45 what they are stays", x.scan(0, 1, 0, 2), 2);
        DUE.is("45 what they are stays", x.about(1, 2), 5);
    }

    private static void sheetAnew() {
        AtomLadders x = all(2, 60, 5);
        DUE.is("45 a new row", x.sheet(0, 2, 60), 1);
        for (int i = 0; i < 20; i++) {
            DUE.is("45 CELLS are 0", x.scan(0, 2, 3 * i, 1), -21);
        }
        DUE.is("45 less CELLS", x.sheet(0, 0, 2), 1);
        DUE.is("45 less CELLS", x.lay(0, 2, 1), INDEX_FAULT);
        DUE.is("45 another lane", x.scan(0, 2, 0, 0), CAST_FAULT);
        DUE.is("45 none", x.sheet(0, 1, 0), 1);
        DUE.is("45 none is not nothing", x.lay(0, 0, 1), INDEX_FAULT);
        DUE.is("45 none is not nothing", x.scan(0, 1, 0, 0), 0);
        AtomLadders y = new AtomLadders();
        y.sheet(1, 2, 3);
        DUE.is("45 the others have nothing still", y.lay(0, 0, 0), NULL_FAULT);
        DUE.is("45 the others have nothing still", y.lay(2, 0, 0), NULL_FAULT);
        DUE.is("45 the others have nothing still", y.lay(3, 0, 0), NULL_FAULT);
    }

    // ---- 46

    private static void layNumbers() {
        for (int lane = 0; lane < 3; lane++) {
            int kept = lane;
            EDGES.of("46 i of 60", 0, 59, v -> of(kept, 60).lay(0, v, 1), v -> 1, INDEX_FAULT);
            EDGES.of("46 i of 1", 0, 0, v -> of(kept, 1).lay(0, v, 1), v -> 1, INDEX_FAULT);
            EDGES.outside("46 i of none", 0, -1, v -> of(kept, 0).lay(0, v, 1), INDEX_FAULT);
            DUE.is("46 i of none", of(lane, 0).lay(0, 0, 1), INDEX_FAULT);
            for (int v : new int[] {LEAST, LEAST + 1, -1, 0, 1, MOST - 1, MOST}) {
                DUE.is("46 any v", of(lane, 1).lay(0, 0, v), 1);
            }
        }
    }

    private static void layFaults() {
        EDGES.outside("46 k", 0, 3, v -> of(0, 1).lay(v, 0, 0), BAD);
        EDGES.outside("46 k ahead of INDEX", 0, 3, v -> of(0, 1).lay(v, -1, 0), BAD);
        for (int k = 1; k < 4; k++) {
            DUE.is("46 nothing", of(0, 1).lay(k, 0, 0), NULL_FAULT);
            DUE.is("46 NULL ahead of INDEX", of(0, 1).lay(k, -1, 0), NULL_FAULT);
            DUE.is("46 NULL ahead of INDEX", of(0, 1).lay(k, MOST, 0), NULL_FAULT);
        }
    }

    /** STEPS with SHIFTS -100, 0, 100; whether a CELL is v is told by how far it is from -100, and from 100. */
    private static boolean has(int lane, int laid, int v) {
        return near(lane, laid, 0, Math.abs(v + 100)) && near(lane, laid, 2, Math.abs(v - 100));
    }

    private static boolean near(int lane, int laid, int at, int far) {
        AtomLadders x = new AtomLadders();
        x.level(0, 0, 0);
        x.level(0, 1, 2);
        x.factor(1, 50);
        x.sheet(0, lane, 3);
        x.lay(0, 0, -100);
        x.lay(0, 2, 100);
        x.lay(0, at, laid);
        return x.match(0, lane, 0, 3, far) == 2 && (far == 0 || x.match(0, lane, 0, 3, far - 1) == 0);
    }

    private static void bytes() {
        int[][] due = {{0, 0}, {1, 1}, {127, 127}, {128, -128}, {129, -127}, {255, -1}, {256, 0}, {257, 1}, {383, 127},
            {384, -128}, {-1, -1}, {-127, -127}, {-128, -128}, {-129, 127}, {-255, 1}, {-256, 0}, {-257, -1},
            {32767, -1}, {32768, 0}, {65535, -1}, {65536, 0}, {MOST, -1}, {MOST - 1, -2}, {LEAST, 0}, {LEAST + 1, 1},
            {0x7FFFFF80, -128}, {0x7FFFFF7F, 127}, {0x80000080, -128}};
        for (int[] d : due) {
            DUE.holds("46 a byte of " + d[0] + " is " + d[1], has(0, d[0], d[1]));
        }
    }

    private static void shorts() {
        int[][] due = {{0, 0}, {127, 127}, {128, 128}, {255, 255}, {256, 256}, {-129, -129}, {-256, -256}, {65535, -1},
            {65536, 0}, {65537, 1}, {-65535, 1}, {-65536, 0}, {-65537, -1}, {64736, -800}, {-64736, 800}, {131072, 0},
            {MOST, -1}, {MOST - 1, -2}, {LEAST, 0}, {LEAST + 1, 1}};
        for (int[] d : due) {
            DUE.holds("46 a short of " + d[0] + " is " + d[1], has(1, d[0], d[1]));
        }
        DUE.is("46 the greatest short", of(1, 3, 32767).scan(0, 1, 0, 1), 1);
        DUE.is("46 above it", of(1, 3, 32768).scan(0, 1, 0, 1), -21);
        DUE.is("46 below the least one", of(1, 3, -32769).scan(0, 1, 0, 1), 1);
        DUE.is("46 the least one", of(1, 3, -32768).scan(0, 1, 0, 1), -21);
        AtomLadders x = of(1, 3, -32769);
        x.scan(0, 1, 0, 1);
        DUE.is("46 below the least one", x.about(0, 0), 32767);
    }

    private static void ints() {
        for (int v : new int[] {0, 1, -1, 127, 128, 255, 256, -129, 800, -800}) {
            DUE.holds("46 an int of " + v, has(2, v, v));
        }
        for (int v : new int[] {1, 32768, 65535, 65536, 999999, 1000000}) {
            AtomLadders x = of(2, 3, v);
            DUE.is("46 an int of " + v, x.scan(0, 2, 0, 1), 1);
            DUE.is("46 an int of " + v, x.about(0, 0), v);
        }
        for (int v : new int[] {1000001, 1 << 24, MOST, LEAST, -1, 0}) {
            DUE.is("46 an int of " + v, of(2, 3, v).scan(0, 2, 0, 1), -21);
        }
    }

    private static void neighbours() {
        for (int lane = 0; lane < 3; lane++) {
            AtomLadders x = all(lane, 9, 5);
            x.lay(0, 3, LEAST | 7);
            x.lay(0, 4, lane == 0 ? -248 : lane == 1 ? -65528 : 8);
            x.lay(0, 5, 9);
            int first = lane == 2 ? -21 : 3;
            DUE.is("46 lane " + lane, x.scan(0, lane, 0, 3), first);
            if (lane != 2) {
                int[] due = {5, 5, 5, 7, 8, 9, 5, 5, 5};
                for (int i = 0; i < 9; i++) {
                    DUE.is("46 CELL " + i + " of lane " + lane, x.about(i / 3, i % 3), due[i]);
                }
            }
        }
    }

    // ---- 47

    private static void scanNumbers() {
        EDGES.of("47 n", 0, 16, v -> all(0, 60, 5).scan(0, 0, 0, v), v -> v, BAD);
        EDGES.outside("47 k", 0, 3, v -> all(0, 60, 5).scan(v, 0, 0, 1), BAD);
        EDGES.outside("47 lane", 0, 2, v -> all(0, 60, 5).scan(0, v, 0, 1), BAD);
        EDGES.outside("47 n ahead of NULL", 0, 16, v -> new AtomLadders().scan(0, 0, 0, v), BAD);
        EDGES.outside("47 n ahead of CAST", 0, 16, v -> all(0, 60, 5).scan(0, 1, 0, v), BAD);
        EDGES.outside("47 n ahead of INDEX", 0, 16, v -> all(0, 60, 5).scan(0, 0, -1, v), BAD);
        EDGES.outside("47 lane ahead of NULL", 0, 2, v -> new AtomLadders().scan(0, v, 0, 1), BAD);
    }

    private static void scanFaults() {
        for (int lane = 0; lane < 3; lane++) {
            for (int taken = 0; taken < 3; taken++) {
                for (int n = 0; n <= 1; n++) {
                    DUE.is("47 lane " + lane + " as " + taken, all(lane, 3, 5).scan(0, taken, 0, n),
                        lane == taken ? n : CAST_FAULT);
                    DUE.is("47 CAST ahead of INDEX", of(lane, 0).scan(0, taken, -1, n),
                        lane != taken ? CAST_FAULT : n == 0 ? 0 : INDEX_FAULT);
                }
            }
            DUE.is("47 nothing", of(lane, 3).scan(1, lane, 0, 1), NULL_FAULT);
            DUE.is("47 nothing, none of it read", of(lane, 3).scan(1, lane, 0, 0), NULL_FAULT);
            DUE.is("47 NULL ahead of INDEX", of(lane, 3).scan(3, lane, -1, 16), NULL_FAULT);
        }
    }

    private static void scanFrom() {
        for (int lane = 0; lane < 3; lane++) {
            int kept = lane;
            EDGES.of("47 f of 60, one LINE", 0, 57, v -> all(kept, 60, 5).scan(0, kept, v, 1), v -> 1, INDEX_FAULT);
            EDGES.of("47 f of 60, 16 LINES", 0, 12, v -> all(kept, 60, 5).scan(0, kept, v, 16), v -> 16, INDEX_FAULT);
            EDGES.of("47 f of 3", 0, 0, v -> all(kept, 3, 5).scan(0, kept, v, 1), v -> 1, INDEX_FAULT);
            EDGES.outside("47 f of 2", 0, -1, v -> all(kept, 2, 5).scan(0, kept, v, 1), INDEX_FAULT);
            DUE.is("47 f of 2", all(lane, 2, 5).scan(0, lane, 0, 1), INDEX_FAULT);
            for (int f : new int[] {LEAST, -1, 0, 60, 61, MOST}) {
                DUE.is("47 none is read, wherever", all(lane, 60, 5).scan(0, lane, f, 0), 0);
            }
        }
        DUE.is("47 below 0, the second LINE is there", all(0, 60, 5).scan(0, 0, -3, 2), INDEX_FAULT);
        DUE.is("47 no CELLS, no LINES", of(0, 0).scan(0, 0, 0, 0), 0);
        DUE.is("47 no CELLS", of(0, 0).scan(0, 0, 0, 1), INDEX_FAULT);
    }

    /** What line() refuses, of each of the three CELLS, on both sides. */
    private static void scanRefused() {
        EDGES.of("47 PLACE", 1, 1000000, v -> of(2, 3, v, 0, 0).scan(0, 2, 0, 1), v -> 1, -21);
        EDGES.of("47 END", 0, 1000, v -> of(2, 3, 1, v, 0).scan(0, 2, 0, 1), v -> 1, -21);
        EDGES.of("47 STRENGTH", 0, 999, v -> of(2, 3, 1, 0, v).scan(0, 2, 0, 1), v -> 1, -21);
        AtomLadders x = of(2, 6, 1000000, 1000, 999, 1, 0, 0);
        DUE.is("47 two", x.scan(0, 2, 0, 2), 2);
        int[] due = {1000000, 1000, 999, NONE, NONE, 0, 1, 0, 0, NONE, NONE, 0};
        for (int i = 0; i < 12; i++) {
            DUE.is("47 what came", x.about(i / 6, i % 6), due[i]);
        }
        DUE.is("47 bytes", of(0, 3, 1, -1, 0).scan(0, 0, 0, 1), -21);
        DUE.is("47 bytes", of(0, 3, 127, 127, 127).scan(0, 0, 0, 1), 1);
        DUE.is("47 bytes", of(0, 3, 128, 0, 0).scan(0, 0, 0, 1), -21);
    }

    private static void scanFull() {
        for (int there = 0; there <= 16; there++) {
            AtomLadders x = all(0, 60, 5);
            for (int n = 0; n < there; n++) {
                x.line(1, 0, 0);
            }
            DUE.is("47 one more than there is room, from " + there, x.scan(0, 0, 0, Math.min(16, 17 - there)),
                there == 0 ? 16 : -23);
            DUE.is("47 none came", x.count(1), there == 0 ? 16 : there);
            DUE.is("47 just as many", x.scan(0, 0, 0, there == 0 ? 0 : 16 - there), 16);
            DUE.is("47 FULL", x.scan(0, 0, 0, 1), -23);
            DUE.is("47 none of them", x.scan(0, 0, 0, 0), 16);
            x.lay(0, 0, 0);
            DUE.is("47 BAD ahead of FULL", x.scan(0, 0, 0, 1), -21);
            DUE.is("47 INDEX ahead of FULL", x.scan(0, 0, 58, 1), INDEX_FAULT);
        }
    }

    private static void scanNoneCame() {
        AtomLadders x = all(0, 12, 5);
        x.line(7, 7, 7);
        x.settle();
        x.lay(0, 10, -1);
        DUE.is("47 the fourth is refused", x.scan(0, 0, 0, 4), -21);
        DUE.is("47 then none came", x.count(1), 1);
        x.lay(0, 10, 5);
        DUE.is("47 there is no fifth", x.scan(0, 0, 0, 5), INDEX_FAULT);
        DUE.is("47 then none came", x.count(1), 1);
        x.lay(0, 10, -1);
        DUE.is("47 the first met: line()", x.scan(0, 0, 0, 5), -21);
        DUE.is("47 the first met: INDEX", x.scan(0, 0, 10, 2), INDEX_FAULT);
        DUE.is("47 the one that was stays", x.about(0, 0), 7);
        DUE.is("47 three come", x.scan(0, 0, 0, 3), 4);
        DUE.is("47 behind it", x.about(1, 0), 5);
        DUE.is("47 CELLS stay", x.scan(0, 0, 0, 3), 7);
        DUE.is("47 ACTS stay", x.count(8), 1);
        DUE.is("47 numbered on", x.line(1, 0, 0), 7);
    }

    // ---- 48

    private static void countNumbers() {
        EDGES.of("48 what", 0, 9, v -> new AtomLadders().count(v), v -> v == 4 ? NONE : 0, BAD);
    }

    private static void countEmpty() {
        AtomLadders x = new AtomLadders();
        x.sheet(0, 0, 0);
        DUE.is("48 a SHEET without CELLS", x.count(4), 0);
        for (int what = 0; what < 10; what++) {
            DUE.is("48 none", x.count(what), 0);
        }
    }

    private static void countFull() {
        AtomLadders x = new AtomLadders();
        for (int k = 0; k < 8; k++) {
            x.level(100 * k, k % 2, 2);
        }
        DUE.is("48 PARTS, nothing GIVEN", x.count(3), 8);
        for (int n = 0; n < 16; n++) {
            x.line(100, 0, 0);
            x.plate(n, n % 2);
            x.give(n, 1, 0);
        }
        DUE.is("48 PARTS", x.count(3), 7);
        for (int k = 1; k < 8; k++) {
            x.give(k, k, k - 1);
        }
        for (int i = 0; i < 12; i++) {
            x.meet(i, i + 1);
        }
        for (int v = 0; v < 4; v++) {
            x.keep();
        }
        Due.text(x, "1s 2s 3s 4s");
        x.shells();
        for (int i = 0; i < 10; i++) {
            x.feed(0);
        }
        x.sheet(0, 2, 60);
        int[] due = {8, 16, 16, 1, 60, 80, 12, 4, 6, 4};
        for (int what = 0; what < 10; what++) {
            DUE.is("48 the most " + what, x.count(what), due[what]);
        }
        x.take(15);
        DUE.is("48 one is not GIVEN", x.count(2), 15);
        x.drop();
        DUE.is("48 one went", x.count(1), 15);
        DUE.is("48 ACTS are none then", x.count(8), 0);
    }

    private static void countSheet() {
        AtomLadders x = new AtomLadders();
        for (int k = 1; k < 4; k++) {
            x.sheet(k, 0, 9);
            DUE.is("48 of SHEET 0 alone", x.count(4), NONE);
        }
        x.sheet(0, 1, 7);
        DUE.is("48 CELLS, not bytes", x.count(4), 7);
        x.sheet(0, 2, 6);
        DUE.is("48 CELLS, not bytes", x.count(4), 6);
    }
}
