/** Promises 45 to 48: sheet, lay, scan, count. */
public final class SheetsTest {
    private static final Due DUE = new Due("SheetsTest");
    private static final int LEAST = Integer.MIN_VALUE;
    private static final int MOST = Integer.MAX_VALUE;

    public static void main(String[] args) {
        sheet();
        lay();
        lanes();
        scan();
        scanFaults();
        scanRefused();
        count();
        DUE.end();
    }

    private static void sheet() {
        AtomLadders x = new AtomLadders();
        DUE.is("45 bad", x.sheet(-1, 0, 0), -1);
        DUE.is("45 bad", x.sheet(4, 0, 0), -1);
        DUE.is("45 bad", x.sheet(0, -1, 0), -1);
        DUE.is("45 bad", x.sheet(0, 3, 0), -1);
        DUE.is("45 bad", x.sheet(0, 0, 61), -1);
        DUE.is("45 bad", x.sheet(0, 0, MOST), -1);
        DUE.is("45 size", x.sheet(0, 0, -1), -14);
        DUE.is("45 size", x.sheet(0, 0, LEAST), -14);
        DUE.is("45 bad ahead of size", x.sheet(0, 3, -1), -1);
        DUE.is("45 bad ahead of size", x.sheet(4, 0, -1), -1);
        DUE.is("45 still nothing", x.count(4), -4);
        DUE.is("45 no cells", x.sheet(0, 2, 0), 1);
        DUE.is("45 no cells", x.count(4), 0);
        DUE.is("45 sixty", x.sheet(0, 2, 60), 1);
        DUE.is("45 sixty", x.count(4), 60);
        DUE.is("45 refused", x.sheet(0, 1, -1), -14);
        DUE.is("45 stays", x.count(4), 60);
        DUE.is("45 stays", x.scan(0, 2, 0, 0), 0);
        x.lay(0, 0, 5);
        x.lay(0, 1, 5);
        x.lay(0, 2, 5);
        DUE.is("45 scanned", x.scan(0, 2, 0, 1), 1);
        x.sheet(0, 2, 60);
        DUE.is("45 cells are 0 anew", x.scan(0, 2, 0, 1), -21);
    }

    private static void lay() {
        AtomLadders x = new AtomLadders();
        DUE.is("46 null", x.lay(1, 0, 0), -11);
        DUE.is("46 null ahead of index", x.lay(1, -1, 0), -11);
        x.sheet(1, 2, 3);
        DUE.is("46 first", x.lay(1, 0, 1), 1);
        DUE.is("46 last", x.lay(1, 2, 1), 1);
        DUE.is("46 index", x.lay(1, 3, 1), -12);
        DUE.is("46 index", x.lay(1, -1, 1), -12);
        DUE.is("46 index", x.lay(1, MOST, 1), -12);
        DUE.is("46 index", x.lay(1, LEAST, 1), -12);
        DUE.is("46 bad", x.lay(-1, 0, 0), -1);
        DUE.is("46 bad", x.lay(4, 0, 0), -1);
        x.sheet(1, 2, 0);
        DUE.is("46 no cells", x.lay(1, 0, 0), -12);
    }

    /** What a cell has of a number: 1 and the number's lowest bits, read as a place. */
    private static int placeOf(int lane, int v) {
        AtomLadders x = new AtomLadders();
        x.sheet(3, lane, 3);
        x.lay(3, 0, v);
        int lines = x.scan(3, lane, 0, 1);
        return lines == 1 ? x.about(0, 0) : lines;
    }

    private static void lanes() {
        DUE.is("46 byte", placeOf(0, 127), 127);
        DUE.is("46 byte", placeOf(0, 128), -21);
        DUE.is("46 byte", placeOf(0, 256), -21);
        DUE.is("46 byte", placeOf(0, 257), 1);
        DUE.is("46 byte", placeOf(0, -255), 1);
        DUE.is("46 short", placeOf(1, 128), 128);
        DUE.is("46 short", placeOf(1, 32767), 32767);
        DUE.is("46 short", placeOf(1, 32768), -21);
        DUE.is("46 short", placeOf(1, 65536 + 7), 7);
        DUE.is("46 int", placeOf(2, 1000000), 1000000);
        DUE.is("46 int", placeOf(2, 1000001), -21);
        DUE.is("46 int", placeOf(2, LEAST), -21);
    }

    private static AtomLadders laid(int lane, int size, int... cells) {
        AtomLadders x = new AtomLadders();
        x.sheet(2, lane, size);
        for (int i = 0; i < cells.length; i++) {
            x.lay(2, i, cells[i]);
        }
        return x;
    }

    private static void scan() {
        AtomLadders x = laid(2, 8, 9, 10, 11, 12, 1000000, 1000, 999, 5);
        DUE.is("47 none of them", x.scan(2, 2, 0, 0), 0);
        DUE.is("47 none of them, wherever", x.scan(2, 2, -5, 0), 0);
        DUE.is("47 none of them, wherever", x.scan(2, 2, MOST, 0), 0);
        DUE.is("47 two", x.scan(2, 2, 1, 2), 2);
        int[] due = {10, 11, 12, -4, -4, 0, 1000000, 1000, 999, -4, -4, 0};
        for (int i = 0; i < due.length; i++) {
            DUE.is("47 what they are", x.about(i / 6, i % 6), due[i]);
        }
        DUE.is("47 an end that is none", x.scan(2, 2, 3, 1), -21);
        DUE.is("47 from the first cell", x.scan(2, 2, 0, 1), 3);
        DUE.is("47 none comes", x.scan(2, 2, 0, 0), 3);
        DUE.is("47 no act", x.count(8), 0);
    }

    private static void scanFaults() {
        AtomLadders x = laid(1, 8, 1, 1, 1, 2, 2, 2, 3, 3);
        DUE.is("47 null", x.scan(0, 1, 0, 1), -11);
        DUE.is("47 null with none of them", x.scan(0, 1, 0, 0), -11);
        DUE.is("47 cast", x.scan(2, 0, 0, 1), -13);
        DUE.is("47 cast", x.scan(2, 2, 0, 0), -13);
        DUE.is("47 cast ahead of index", x.scan(2, 2, -1, 1), -13);
        DUE.is("47 index", x.scan(2, 1, -1, 1), -12);
        DUE.is("47 index", x.scan(2, 1, -3, 2), -12);
        DUE.is("47 index", x.scan(2, 1, 6, 1), -12);
        DUE.is("47 index", x.scan(2, 1, MOST, 16), -12);
        DUE.is("47 index", x.scan(2, 1, LEAST, 16), -12);
        DUE.is("47 index of the third", x.scan(2, 1, 0, 3), -12);
        DUE.is("47 none came", x.count(1), 0);
        DUE.is("47 bad", x.scan(-1, 1, 0, 1), -1);
        DUE.is("47 bad", x.scan(4, 1, 0, 1), -1);
        DUE.is("47 bad", x.scan(2, -1, 0, 1), -1);
        DUE.is("47 bad", x.scan(2, 3, 0, 1), -1);
        DUE.is("47 bad", x.scan(2, 1, 0, -1), -1);
        DUE.is("47 bad", x.scan(2, 1, 0, 17), -1);
        DUE.is("47 bad ahead of null", x.scan(0, 1, 0, 17), -1);
        DUE.is("47 two", x.scan(2, 1, 0, 2), 2);
        DUE.is("47 up to the last cell", x.scan(2, 1, 5, 1), 3);
    }

    private static void scanRefused() {
        AtomLadders x = laid(2, 60, 5, 5, 5, 5, 1001, 5, 5, 5, 5, 5, 5, 1000);
        DUE.is("47 what line refuses", x.scan(2, 2, 0, 2), -21);
        DUE.is("47 none came", x.count(1), 0);
        DUE.is("47 strength", x.scan(2, 2, 9, 1), -21);
        DUE.is("47 the first met: the line", x.scan(2, 2, 48, 5), -21);
        AtomLadders y = laid(0, 60);
        for (int i = 0; i < 60; i++) {
            y.lay(2, i, 5);
        }
        DUE.is("47 sixteen", y.scan(2, 0, 0, 16), 16);
        DUE.is("47 full", y.scan(2, 0, 0, 1), -23);
        y.drop();
        y.drop();
        DUE.is("47 full at the third", y.scan(2, 0, 0, 3), -23);
        DUE.is("47 none came", y.count(1), 14);
        y.lay(2, 6, 0);
        DUE.is("47 bad ahead of full", y.scan(2, 0, 0, 3), -21);
        DUE.is("47 full ahead of index", y.scan(2, 0, 51, 4), -23);
        DUE.is("47 index ahead of full", y.scan(2, 0, 54, 3), -12);
        DUE.is("47 two", y.scan(2, 0, 0, 2), 16);
    }

    private static void count() {
        AtomLadders x = new AtomLadders();
        x.level(0, 0, 2);
        x.level(1, 1, 2);
        x.level(2, 0, 2);
        x.level(3, 1, 2);
        x.line(1, 0, 0);
        x.line(2, 0, 0);
        DUE.is("48 parts", x.count(3), 4);
        x.give(0, 1, 0);
        DUE.is("48 parts", x.count(3), 3);
        x.give(1, 0, 1);
        DUE.is("48 parts", x.count(3), 3);
        x.give(1, 3, 2);
        DUE.is("48 parts", x.count(3), 2);
        x.sheet(1, 0, 9);
        DUE.is("48 sheet 0 alone", x.count(4), -4);
        x.sheet(0, 1, 8);
        x.feed(0);
        x.line(3, 0, 0);
        x.plate(2, 1);
        x.meet(0, 2);
        x.keep();
        int[] due = {4, 3, 2, 2, 8, 8, 1, 1, 3, 0};
        for (int what = 0; what < due.length; what++) {
            DUE.is("48 count " + what, x.count(what), due[what]);
        }
        Due.text(x, "1s 2p^2");
        x.shells();
        DUE.is("48 shells", x.count(9), 2);
        DUE.is("48 bytes", x.count(5), 0);
        DUE.is("48 bad", x.count(-1), -1);
        DUE.is("48 bad", x.count(10), -1);
        DUE.is("48 bad", x.count(LEAST), -1);
        DUE.is("48 bad", x.count(MOST), -1);
    }
}
