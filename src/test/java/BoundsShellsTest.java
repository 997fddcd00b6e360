/** The boundary cases of promises 24 to 32, sentence by sentence. */
public final class BoundsShellsTest {
    private static final Due DUE = new Due("BoundsShellsTest");
    private static final Edges EDGES = new Edges(DUE);
    private static final int BAD = -1;
    private static final int STATE = -2;
    private static final int FULL = -3;
    private static final int NONE = -4;
    private static final String LETTERS = "spdf";

    public static void main(String[] args) {
        feedFull();
        feedRefused();
        feedBytes();
        end();
        endCuts();
        everyByte();
        emptyTape();
        greatestPlaces();
        numberTooLong();
        firstNumbers();
        secondNumbers();
        twelveInAll();
        twelveAtTheLetter();
        fourShells();
        noShellTwice();
        tokensThatCanNotStand();
        blanks();
        sides();
        faultStays();
        toldStay();
        fillings();
        fillingsGreatest();
        fillingsOfEachShell();
        fillingsAnew();
        terms();
        spins();
        term();
        missing();
        missingSpins();
        DUE.end();
    }

    private static AtomLadders of(String text) {
        AtomLadders x = new AtomLadders();
        Due.text(x, text);
        DUE.holds("told '" + text + "'", x.shells() >= 0);
        return x;
    }

    private static void good(String text, int side, int shells) {
        AtomLadders x = new AtomLadders();
        Due.text(x, text);
        DUE.is("26 '" + text + "'", x.shells(), side);
        DUE.is("27 none in '" + text + "'", x.fault(), 0);
        DUE.is("48 shells of '" + text + "'", x.count(9), shells);
        DUE.is("26 empty then", x.count(5), 0);
    }

    private static void bad(String text, int kind, int place) {
        AtomLadders x = new AtomLadders();
        Due.text(x, text);
        DUE.is("26 '" + text + "'", x.shells(), -10 - place);
        DUE.is("27 '" + text + "'", x.fault(), kind);
        DUE.is("48 no shells of '" + text + "'", x.count(9), 0);
        DUE.is("26 empty then", x.count(5), 0);
    }

    // ---- 24

    private static void feedFull() {
        AtomLadders x = new AtomLadders();
        for (int i = 1; i <= 10; i++) {
            DUE.is("24 how many it has", x.feed(-1L), 8 * i);
        }
        DUE.is("24 more than 80", x.feed(-1L), FULL);
        DUE.is("24 80", x.count(5), 80);
        for (int n = 79; n >= 73; n--) {
            x.end(n);
            DUE.is("24 more than 80, from " + n, x.feed(-1L), FULL);
            DUE.is("24 as many as there were", x.count(5), n);
        }
        x.end(72);
        DUE.is("24 just 80", x.feed(-1L), 80);
        x.end(71);
        DUE.is("24 79", x.feed(-1L), 79);
    }

    private static void feedRefused() {
        AtomLadders x = new AtomLadders();
        Due.text(x, " ".repeat(70) + "2p^3");
        DUE.is("24 74", x.count(5), 74);
        DUE.is("24 refused", x.feed(0x3939393939393939L), FULL);
        DUE.is("24 nothing came", x.shells(), 1);
        DUE.is("24 nothing came", x.fillings(0, 3), 1);
    }

    private static void feedBytes() {
        long[] ends = {Long.MIN_VALUE, Long.MAX_VALUE, -1L, 0L, 1L, Long.MIN_VALUE + 1, Long.MAX_VALUE - 1};
        for (long v : ends) {
            AtomLadders x = new AtomLadders();
            DUE.is("24 " + v, x.feed(v), 8);
            DUE.is("24 the first byte of " + v, x.shells(), -10);
            DUE.is("24 the first byte of " + v, x.fault(), 1);
        }
        AtomLadders high = new AtomLadders();
        high.feed(0x3270202020202020L);
        DUE.is("24 the highest first", high.shells(), 1);
        AtomLadders low = new AtomLadders();
        low.feed(0x2020202020203270L);
        DUE.is("24 the lowest last", low.shells(), 1);
        AtomLadders both = new AtomLadders();
        both.feed(0x2020202020202032L);
        both.feed(0x7020202020202020L);
        DUE.is("24 behind THE TAPE", both.shells(), 1);
        AtomLadders cut = new AtomLadders();
        cut.feed(0x3270FFFFFFFFFFFFL);
        cut.end(2);
        cut.feed(0x5E32202020202020L);
        DUE.is("24 behind what end() left", cut.shells(), 0);
        DUE.is("24 two of them", cut.fillings(2, 0), 1);
    }

    // ---- 25

    private static AtomLadders tape(int feeds) {
        AtomLadders x = new AtomLadders();
        for (int i = 0; i < feeds; i++) {
            x.feed(0L);
        }
        return x;
    }

    private static void end() {
        for (int feeds : new int[] {0, 1, 10}) {
            int length = 8 * feeds;
            EDGES.of("25 of " + length, 0, length, v -> tape(feeds).end(v), v -> length, BAD);
        }
        AtomLadders x = tape(10);
        EDGES.outside("25 n", 0, 80, x::end, BAD);
        DUE.is("25 refused: nothing went", x.count(5), 80);
        DUE.is("25 all stay", x.end(80), 80);
        DUE.is("25 one goes", x.end(79), 80);
        DUE.is("25 what went does not come again", x.end(80), BAD);
        DUE.is("25 none stay", x.end(0), 79);
        DUE.is("25 none stay", x.count(5), 0);
        DUE.is("25 none there", x.end(0), 0);
        DUE.is("25 none there", x.end(1), BAD);
    }

    private static void endCuts() {
        // what is behind the end is no part of a TOKEN
        AtomLadders x = new AtomLadders();
        x.feed(0x32705E3333333333L);
        DUE.is("25 cut in a NUMBER", x.end(4), 8);
        DUE.is("25 cut in a NUMBER", x.shells(), 1);
        x.feed(0x32705E3333333333L);
        x.end(5);
        DUE.is("25 two figures", x.shells(), -13);
        DUE.is("25 two figures", x.fault(), 3);
        x.feed(0x32705E3333333333L);
        x.end(6);
        DUE.is("25 three figures", x.shells(), -13);
        DUE.is("25 three figures", x.fault(), 1);
        x.feed(0x32705E3333333333L);
        x.end(3);
        DUE.is("25 no NUMBER", x.shells(), -13);
        DUE.is("25 no NUMBER", x.fault(), 2);
        x.feed(0x3270202020202020L);
        x.end(0);
        DUE.is("25 nothing is left", x.shells(), -10);
        DUE.is("25 nothing is left", x.fault(), 2);
    }

    // ---- 26, 27

    /** Each byte alone, where a shell begins: what is no TOKEN, what can not stand there, what lacks the rest. */
    private static void everyByte() {
        for (int b = 0; b < 256; b++) {
            boolean more = b == 32 || b >= '0' && b <= '9';
            boolean token = LETTERS.indexOf(b) >= 0 || b == '^';
            bad(String.valueOf((char) b), more || token ? 2 : 1, more ? 1 : 0);
            if (b != 32 && !(b >= '0' && b <= '9')) {
                boolean letter = b == 's';
                if (letter) {
                    good("1" + (char) b, 0, 1);
                } else if (LETTERS.indexOf(b) >= 0) {
                    bad("1" + (char) b, 3, 0);
                } else {
                    bad("1" + (char) b, b == '^' ? 2 : 1, 1);
                }
            }
        }
    }

    private static void emptyTape() {
        bad("", 2, 0);
        bad(" ", 2, 1);
        AtomLadders x = new AtomLadders();
        DUE.is("26 a new TAPE", x.shells(), -10);
        DUE.is("27 the end can not stand there", x.fault(), 2);
    }

    private static void greatestPlaces() {
        bad(" ".repeat(80), 2, 80);
        bad(" ".repeat(79) + "1", 2, 80);
        bad(" ".repeat(79) + "x", 1, 79);
        bad(" ".repeat(77) + "123", 1, 77);
        bad(" ".repeat(77) + "1s^", 2, 80);
        bad(" ".repeat(76) + "1s^3", 3, 79);
        good(" ".repeat(78) + "1s", 0, 1);
        good(" ".repeat(76) + "2p^3", 1, 1);
        good("2p" + " ".repeat(78), 1, 1);
        good("2p^" + " ".repeat(76) + "3", 1, 1);
        good("1s^2" + " ".repeat(38) + "2s^2" + " ".repeat(34), 0, 2);
    }

    private static void numberTooLong() {
        good("01s", 0, 1);
        bad("001s", 1, 0);
        bad("0001s", 1, 0);
        bad("100s", 1, 0);
        bad("1s^002", 1, 3);
        bad("1s^100", 1, 3);
        good("1s^02", 0, 1);
        bad(" 123", 1, 1);
        bad("12345678901234567890", 1, 0);
        bad("1s 123", 1, 3);
        bad("1s^2 123", 1, 5);
        bad("1s123", 1, 2);
        // ahead of what can not stand there: it is no TOKEN at all
        bad("1 234", 1, 2);
        bad("1s^1 2s 3s 4s 567", 1, 14);
    }

    /** Each NUMBER of two figures with each LETTER. */
    private static void firstNumbers() {
        for (int l = 0; l < 4; l++) {
            for (int number = 0; number < 100; number++) {
                String text = number + LETTERS.substring(l, l + 1);
                if (number > l && number <= 9) {
                    good(text, l % 2, 1);
                    good("0" + text, l % 2, 1);
                } else {
                    bad(text, 3, 0);
                    bad("  " + text + "x", 3, 2);
                }
            }
        }
        bad("1s 0s", 3, 3);
        bad("1s 10s", 3, 3);
        bad("2p 1p", 3, 3);
        // asked when the LETTER is there
        bad("0", 2, 1);
        bad("99", 2, 2);
        bad("0^", 2, 1);
        bad("0x", 1, 1);
        bad("10 11", 2, 3);
    }

    /** Each NUMBER of two figures as how many; above 12 there is no room, whatever the LETTER has. */
    private static void secondNumbers() {
        for (int l = 0; l < 4; l++) {
            for (int many = 0; many < 100; many++) {
                String text = (l + 1) + LETTERS.substring(l, l + 1) + "^" + many;
                if (many < 1 || many > 4 * l + 2) {
                    bad(text, 3, 3);
                    bad(text + "x", 3, 3);
                } else if (many > 12) {
                    bad(text, 5, 3);
                    bad(text + "x", 5, 3);
                } else {
                    good(text, l * many % 2, 1);
                    bad(text + "x", 1, text.length());
                }
            }
        }
    }

    private static void twelveInAll() {
        good("3d^10 4s^2", 0, 2);
        good("4f^12", 0, 1);
        good("4f^6 5f^6", 0, 2);
        bad("4f^6 5f^7", 5, 8);
        good("2p^6 3p^6", 0, 2);
        good("1s^2 2s^2 2p^6 3s^2", 0, 4);
        bad("1s^2 2s^2 2p^6 3p^3", 5, 18);
        good("4f^11 5f^1", 0, 2);
        bad("4f^11 5f^2", 5, 9);
        bad("4f^12 5f^1", 5, 9);
        // what is out of its bounds is met ahead of that
        bad("4f^12 5f^15", 3, 9);
        bad("4f^12 5f^0", 3, 9);
        bad("4f^12 4f^1", 4, 7);
    }

    private static void twelveAtTheLetter() {
        good("4f^11 5s", 1, 2);
        bad("4f^12 5s", 5, 7);
        bad("4f^12 5 s  ", 5, 8);
        bad("4f^10 5s 6s 7s", 5, 13);
        good("4f^10 5s 6s", 0, 3);
        bad("4f^12 5s 6s", 5, 7);
        bad("4f^12 5s^1", 5, 9);
        // the TOKEN behind the LETTER tells that there is no second NUMBER
        bad("4f^12 5sx", 1, 8);
        bad("4f^12 5s123", 1, 8);
        bad("4f^12 5s^", 2, 9);
        bad("4f^12 5sp", 5, 7);
    }

    private static void fourShells() {
        good("1s 2s 3s 4s", 0, 4);
        bad("1s 2s 3s 4s 5s", 5, 12);
        bad("1s 2s 3s 4s 5", 5, 12);
        bad("1s 2s 3s 4s 0", 5, 12);
        bad("1s 2s 3s 4s 1s", 5, 12);
        bad("1s 2s 3s 4s 99", 5, 12);
        bad("1s 2s 3s 4s 5x", 5, 12);
        bad("1s2s3s4s5s", 5, 8);
        bad("1s 2s 3s 4s^2 5s", 5, 14);
        bad("1s 2s 3s 4s s", 2, 12);
        bad("1s 2s 3s 4s^2^", 2, 13);
        good("1s 2s 3s 4s^2 ", 0, 4);
        good("1s2p3d4f", 0, 4);
        good("9s9p9d9f", 0, 4);
    }

    private static void noShellTwice() {
        bad("1s1s", 4, 3);
        bad("1s 01s", 4, 5);
        bad("1s^2 1s", 4, 6);
        bad("2s 3s 4s 2s", 4, 10);
        bad("2p 3p 3p", 4, 7);
        good("2s 2p", 1, 2);
        good("2s 3s", 0, 2);
        good("4s 4p 4d 4f", 0, 4);
        bad("1s 1p", 3, 3);
        bad("1s1sx", 4, 3);
        bad("1s1s^9", 4, 3);
    }

    private static void tokensThatCanNotStand() {
        bad("s", 2, 0);
        bad("^", 2, 0);
        bad("1 2", 2, 2);
        bad("1^", 2, 1);
        bad("1ss", 2, 2);
        bad("1s^s", 2, 3);
        bad("1s^^", 2, 3);
        bad("1s^2s", 2, 4);
        bad("1s^2^", 2, 4);
        bad("1s 2", 2, 4);
        bad("1s 2 ", 2, 5);
        bad("1s ^ ", 2, 5);
    }

    private static void blanks() {
        good("1s2s", 0, 2);
        good(" 1 s ^ 2 2 s ^ 1 ", 0, 2);
        good("1s^1 2 s^2", 0, 2);
        bad("1\t", 1, 1);
        bad("1\n", 1, 1);
        bad("1\u00a0s", 1, 1);
        // blanks part NUMBERS: 1 and 2 are no 12
        bad("4f^1 2", 2, 6);
        good("4f^12", 0, 1);
    }

    private static void sides() {
        good("1s", 0, 1);
        good("2p", 1, 1);
        good("2p^2", 0, 1);
        good("3d^9", 0, 1);
        good("4f", 1, 1);
        good("4f^12", 0, 1);
        good("2p 4f", 0, 2);
        good("2p 4f 3p", 1, 3);
        good("2p^3 4f^3 1s", 0, 3);
        good("2p^5 3d^5 1s^2", 1, 3);
    }

    private static void faultStays() {
        AtomLadders x = new AtomLadders();
        DUE.is("27 none at first", x.fault(), 0);
        x.shells();
        DUE.is("27 that of the latest", x.fault(), 2);
        x.feed(0x3173202020202020L);
        DUE.is("27 feed() does not change it", x.fault(), 2);
        x.end(2);
        DUE.is("27 end() does not change it", x.fault(), 2);
        DUE.is("27 told", x.shells(), 0);
        DUE.is("27 none then", x.fault(), 0);
        String[] texts = {"x", "s", "0s", "1s1s", "4f^13"};
        for (int i = 0; i < texts.length; i++) {
            Due.text(x, texts[i]);
            x.shells();
            DUE.is("27 one after the other", x.fault(), i + 1);
        }
    }

    private static void toldStay() {
        AtomLadders x = of("2p^3");
        x.level(0, 1, 5);
        String[] texts = {"", "x", "4f^3 5f^3 s", "4f^3 0s", "4f^3 4f", "4f^3 5f^10", "1s 2s 3s 4s 5s"};
        for (String text : texts) {
            Due.text(x, text);
            DUE.holds("26 a FAULT in '" + text + "'", x.shells() <= -10);
            DUE.is("26 as many shells", x.count(9), 1);
            DUE.is("26 FILLINGS stay", x.fillings(0, 3), 1);
            DUE.is("26 FILLINGS stay", x.fillings(6, 3), 0);
            DUE.is("26 TERMS stay", x.term(0, 1), 3);
            DUE.is("26 SPINS stay", x.spins(5), 1);
            DUE.is("26 the SIDE stays", x.missing(1), 4);
        }
        Due.text(x, "1s^2");
        DUE.is("26 others are told", x.shells(), 0);
        DUE.is("26 nothing of them is left", x.term(1, 0), NONE);
        DUE.is("26 nothing of them is left", x.fillings(0, 3), 0);
    }

    // ---- 28

    private static void fillings() {
        AtomLadders x = new AtomLadders();
        DUE.is("28 no shells were told", x.fillings(0, 0), STATE);
        DUE.is("28 the last that are taken", x.fillings(-40, -12), STATE);
        DUE.is("28 the last that are taken", x.fillings(40, 12), STATE);
        EDGES.outside("28 M ahead of STATE", -40, 40, v -> x.fillings(v, 0), BAD);
        EDGES.outside("28 H ahead of STATE", -12, 12, v -> x.fillings(0, v), BAD);
        x.shells();
        DUE.is("28 a FAULT tells no shells", x.fillings(0, 0), STATE);
        AtomLadders s = of("1s^2");
        EDGES.of("28 M", -40, 40, v -> s.fillings(v, 0), v -> v == 0 ? 1 : 0, BAD);
        EDGES.of("28 H", -12, 12, v -> s.fillings(0, v), v -> v == 0 ? 1 : 0, BAD);
        // one PLACE of f: M from -3 to 3, each with H 1 and -1
        AtomLadders f = of("4f");
        for (int m = -4; m <= 4; m++) {
            for (int h = -2; h <= 2; h++) {
                boolean there = Math.abs(m) <= 3 && Math.abs(h) == 1;
                DUE.is("28 f " + m + " " + h, f.fillings(m, h), there ? 1 : 0);
            }
        }
    }

    private static void fillingsGreatest() {
        AtomLadders x = of("4f^3 5f^3 6f^3 7f^3");
        DUE.is("28 the greatest M", x.fillings(32, 4), 1);
        DUE.is("28 the least M", x.fillings(-32, 4), 1);
        DUE.is("28 none beyond", x.fillings(33, 4), 0);
        DUE.is("28 none beyond", x.fillings(-33, -4), 0);
        DUE.is("28 the greatest H", x.fillings(24, 12), 1);
        DUE.is("28 the least H", x.fillings(-24, -12), 1);
        DUE.is("28 none beyond", x.fillings(25, 12), 0);
        long all = 0;
        for (int m = -32; m <= 32; m++) {
            for (int h = -12; h <= 12; h += 2) {
                all += x.fillings(m, h) == x.fillings(-m, h) && x.fillings(m, h) == x.fillings(m, -h)
                    ? 0 : 1;
            }
        }
        DUE.is("28 the same with other signs", all, 0);
        DUE.is("28 a full shell has one", of("3d^10").fillings(0, 0), 1);
        DUE.is("28 a full shell has one", of("2p^6 3p^6").fillings(0, 0), 1);
        DUE.is("28 all but one PLACE", of("3d^9").fillings(2, -1), 1);
    }

    /** A shell of each LETTER with each number of PLACES: all choices, the outermost M and H, the same with other signs. */
    private static void fillingsOfEachShell() {
        for (int l = 0; l < 4; l++) {
            long choices = 1;
            for (int many = 1; many <= Math.min(12, 4 * l + 2); many++) {
                choices = choices * (4 * l + 3 - many) / many;
                AtomLadders x = of("9" + LETTERS.charAt(l) + "^" + many);
                // calls are counted: the half with M at least 0 first, then the other one
                long all = 0;
                int farM = 0;
                int farH = 0;
                for (int m = 0; m <= 13; m++) {
                    for (int h = -8; h <= 8; h++) {
                        long one = x.fillings(m, h);
                        all += m == 0 ? one : 2 * one;
                        farM = one > 0 ? m : farM;
                        farH = one > 0 ? Math.max(farH, h) : farH;
                    }
                }
                DUE.is("28 all of " + l + "^" + many, all, choices);
                AtomLadders y = of("9" + LETTERS.charAt(l) + "^" + many);
                int unlike = 0;
                for (int m = 0; m <= 13; m++) {
                    for (int h = 0; h <= 8; h++) {
                        unlike += y.fillings(m, h) == y.fillings(-m, -h) && y.fillings(m, -h) == y.fillings(-m, h) ? 0 : 1;
                    }
                }
                DUE.is("28 the same with other signs " + l + "^" + many, unlike, 0);
                DUE.is("28 the outermost M of " + l + "^" + many, farM, outermostM(l, many));
                DUE.is("28 the outermost H of " + l + "^" + many, farH, Math.min(many, 4 * l + 2 - many));
            }
        }
    }

    private static int outermostM(int l, int many) {
        int sum = 0;
        for (int i = 0; i < many; i++) {
            sum += l - i / 2;
        }
        return sum;
    }

    /** One object told one text after the other: nothing is left of the shells before. */
    private static void fillingsAnew() {
        String[] texts = {"4f^12", "3d^10", "4f^7", "4f^7", "2p^3 3p^3 4p^3 5p^3", "1s", "4f^6 5f^6", "1s^2 2s^2 2p^6 3s^2",
            "4f^3 5f^3 6f^3 7f^3", "2p"};
        AtomLadders x = new AtomLadders();
        for (String text : texts) {
            Due.text(x, text);
            x.shells();
            AtomLadders y = of(text);
            for (int i = 0; i < 12; i++) {
                int m = new int[] {0, 1, -1, 2, -2, 3, 6, -6, 12, -12, 24, 32}[i];
                DUE.is("26 anew '" + text + "' M " + m, x.fillings(m, i % 3), y.fillings(m, i % 3));
                DUE.is("26 anew '" + text + "' M " + m, x.fillings(m, 4 - i), y.fillings(m, 4 - i));
                DUE.is("26 anew '" + text + "' TERM " + i, x.term(i, 2), y.term(i, 2));
            }
            DUE.is("26 anew '" + text + "' SIDE", x.missing(1), y.missing(1));
        }
    }

    // ---- 29

    private static void terms() {
        AtomLadders x = new AtomLadders();
        DUE.is("29 no shells were told", x.terms(0, 0), STATE);
        DUE.is("29 the last that are taken", x.terms(40, 12), STATE);
        EDGES.outside("29 L ahead of STATE", 0, 40, v -> x.terms(v, 0), BAD);
        EDGES.outside("29 K ahead of STATE", 0, 12, v -> x.terms(0, v), BAD);
        AtomLadders s = of("1s");
        EDGES.of("29 L", 0, 40, v -> s.terms(v, 1), v -> v == 0 ? 1 : 0, BAD);
        EDGES.of("29 K", 0, 12, v -> s.terms(0, v), v -> 0, BAD);
        DUE.is("29 K 1", s.terms(0, 1), 1);
        AtomLadders f = of("4f^3 5f^3 6f^3 7f^3");
        DUE.is("29 the greatest L", f.terms(32, 4), 1);
        DUE.is("29 none beyond", f.terms(33, 4), 0);
        DUE.is("29 the greatest K", f.terms(24, 12), 1);
        DUE.is("29 none beyond", f.terms(25, 12), 0);
        DUE.is("29 K of the other kind", f.terms(5, 3), 0);
    }

    // ---- 30

    private static void spins() {
        AtomLadders x = new AtomLadders();
        EDGES.of("30 no shells were told", 0, 99, x::spins, v -> STATE, BAD);
        EDGES.of("30 s", 0, 99, v -> of("1s").spins(v), v -> 0, BAD);
        DUE.is("30 s", of("1s").spins(1), 1);
        // d: L 2, K 1: from 3 by twos to 5
        long[] d = {0, 0, 0, 1, 0, 1, 0, 0};
        // d s: L 2 with K 2: 2, 4, 6; with K 0: 4
        long[] ds = {0, 0, 1, 0, 2, 0, 1, 0};
        // p^3: L 0 with K 3: 3 alone; L 1, 2 with K 1
        long[] p = {0, 1, 0, 3, 0, 1, 0, 0};
        for (int spin = 0; spin < 8; spin++) {
            DUE.is("30 d " + spin, of("3d").spins(spin), d[spin]);
            DUE.is("30 d s " + spin, of("3d 4s").spins(spin), ds[spin]);
            DUE.is("30 p^3 " + spin, of("2p^3").spins(spin), p[spin]);
        }
        AtomLadders f = of("4f^3 5f^3 6f^3 7f^3");
        DUE.is("30 the greatest", f.spins(68), f.terms(32, 4) + f.terms(31, 6) + f.terms(30, 8) + f.terms(29, 10)
            + f.terms(28, 12));
        DUE.is("30 none beyond", f.spins(70), 0);
        long places = 0;
        for (int spin = 0; spin <= 68; spin += 2) {
            places += f.spins(spin) * (spin + 1);
        }
        DUE.is("30 all LEVELS have as many numbers as there are FILLINGS", places, 364L * 364 * 364 * 364);
        DUE.is("30 none of the other kind", f.spins(67), 0);
    }

    // ---- 31

    private static void term() {
        AtomLadders x = new AtomLadders();
        for (int what = 0; what < 3; what++) {
            int asked = what;
            EDGES.below("31 i, ahead of STATE", 0, v -> x.term(v, asked), BAD);
            DUE.is("31 no shells were told", x.term(0, what), STATE);
            DUE.is("31 STATE ahead of NONE", x.term(Integer.MAX_VALUE, what), STATE);
        }
        EDGES.outside("31 what, ahead of STATE", 0, 2, v -> x.term(0, v), BAD);
        AtomLadders p = of("2p^3");
        long[][] due = {{0, 3, 1}, {2, 1, 1}, {1, 1, 1}};
        for (int i = 0; i < 3; i++) {
            for (int what = 0; what < 3; what++) {
                DUE.is("31 TERM " + i, p.term(i, what), due[i][what]);
            }
        }
        for (int what = 0; what < 3; what++) {
            int asked = what;
            EDGES.index("31 i", 3, v -> p.term(v, asked) < 0 ? p.term(v, asked) : 100, BAD, NONE);
        }
        EDGES.outside("31 what", 0, 2, v -> p.term(0, v), BAD);
        EDGES.outside("31 what, ahead of NONE", 0, 2, v -> p.term(3, v), BAD);
        DUE.is("31 one alone", of("1s^2").term(0, 0), 0);
        DUE.is("31 one alone", of("1s^2").term(0, 1), 0);
        DUE.is("31 one alone", of("1s^2").term(0, 2), 1);
        DUE.is("31 one alone", of("1s^2").term(1, 0), NONE);
        AtomLadders f = of("4f^3 5f^3 6f^3 7f^3");
        DUE.is("31 K, the greatest first", f.term(0, 1), 12);
        DUE.is("31 then L, the greatest first", f.term(0, 0), 24);
        DUE.is("31 then L, the greatest first", f.term(1, 0), 23);
        int size = 0;
        while (size < 400 && f.term(size, 0) >= 0) {
            size++;
        }
        DUE.is("31 the last: L", f.term(size - 1, 0), 0);
        DUE.is("31 the last: K", f.term(size - 1, 1), 0);
    }

    // ---- 32

    private static void missing() {
        AtomLadders x = new AtomLadders();
        EDGES.of("32 no shells were told", 0, 1, x::missing, v -> STATE, BAD);
        AtomLadders p = of("2p");
        EDGES.of("32 what", 0, 1, p::missing, v -> v == 0 ? 0 : 2, BAD);
        p.level(0, 0, 1);
        p.level(0, 0, 3);
        DUE.is("32 of the other SIDE", p.missing(0), 0);
        DUE.is("32 of the other SIDE", p.missing(1), 2);
        p.level(0, 1, 1);
        DUE.is("32 one is known", p.missing(1), 1);
        p.level(0, 1, 3);
        DUE.is("32 all are known", p.missing(0), 0);
        DUE.is("32 all are known", p.missing(1), 0);
        p.level(0, 1, 3);
        DUE.is("32 one more", p.missing(0), 1);
        DUE.is("32 none less", p.missing(1), 0);
        p.level(0, 1, 5);
        p.level(0, 1, 2);
        DUE.is("32 three more", p.missing(0), 3);
        DUE.is("32 none less", p.missing(1), 0);
    }

    /** SPIN by SPIN: what one SPIN has more does not make up for what another one has less; 0 and 9 count, 10 does not. */
    private static void missingSpins() {
        AtomLadders x = of("1s^2");
        for (int k = 0; k < 8; k++) {
            x.level(0, 0, 9);
        }
        DUE.is("32 SPIN 9: eight more", x.missing(0), 8);
        DUE.is("32 SPIN 0: one less", x.missing(1), 1);
        AtomLadders y = of("1s^2");
        for (int k = 0; k < 8; k++) {
            y.level(0, 0, 0);
        }
        DUE.is("32 SPIN 0: seven more", y.missing(0), 7);
        DUE.is("32 none less", y.missing(1), 0);
        // f^2 s: L 5 with K 3 has 13, 11, 9, 7: those above 9 are none
        AtomLadders f = of("4f^3");
        long to9 = 0;
        for (int spin = 0; spin <= 9; spin++) {
            to9 += f.spins(spin);
        }
        DUE.holds("32 SPIN 9 and 11", f.spins(9) > 0 && f.spins(11) > 0);
        DUE.is("32 to SPIN 9 alone", f.missing(1), to9);
        f.level(0, 1, 9);
        DUE.is("32 SPIN 9 counts", f.missing(1), to9 - 1);
    }
}
