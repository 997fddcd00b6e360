/** Promises 24 to 32: feed, end, shells, fault, fillings, terms, spins, term, missing. */
public final class ShellsTest {
    private static final Due DUE = new Due("ShellsTest");

    public static void main(String[] args) {
        feedAndEnd();
        goodTexts();
        badTexts();
        whatStays();
        fillings();
        terms();
        greatTerms();
        spins();
        term();
        missing();
        DUE.end();
    }

    private static void feedAndEnd() {
        AtomLadders x = new AtomLadders();
        DUE.is("25 empty", x.end(0), 0);
        DUE.is("25 bad", x.end(1), -1);
        DUE.is("25 bad", x.end(-1), -1);
        for (int i = 1; i <= 10; i++) {
            DUE.is("24 feed", x.feed(0x3173203273202020L), 8 * i);
        }
        DUE.is("24 full", x.feed(0), -3);
        DUE.is("24 eighty", x.count(5), 80);
        DUE.is("25 bad", x.end(81), -1);
        DUE.is("25 all", x.end(80), 80);
        DUE.is("25 73", x.end(73), 80);
        DUE.is("24 full", x.feed(0), -3);
        DUE.is("25 5", x.end(5), 73);
        DUE.is("24 the highest first", x.shells(), 0);
        DUE.is("24 two shells", x.count(9), 2);
        DUE.is("26 empty then", x.count(5), 0);
        DUE.is("24 after", x.feed(0x3270FFFFFFFFFFFFL), 8);
        DUE.is("26 a byte that is no token", x.shells(), -12);
        DUE.is("26 empty then too", x.count(5), 0);
        x.feed(0x2020202020202020L);
        x.feed(0x2032702020202020L);
        DUE.is("24 behind", x.shells(), 1);
    }

    private static void good(String text, int side, int shells) {
        AtomLadders x = new AtomLadders();
        Due.text(x, text);
        DUE.is("26 '" + text + "'", x.shells(), side);
        DUE.is("27 '" + text + "'", x.fault(), 0);
        DUE.is("48 '" + text + "'", x.count(9), shells);
    }

    private static void goodTexts() {
        good("1s", 0, 1);
        good("2p", 1, 1);
        good("1s^1", 0, 1);
        good("2p^01", 1, 1);
        good("  2  p  ^  2  ", 0, 1);
        good("02p^03", 1, 1);
        good("9f", 1, 1);
        good("4f^12", 0, 1);
        good("3d^10", 0, 1);
        good("1s2s3s4s", 0, 4);
        good("1s^2 2s^2 2p^6 3s^2", 0, 4);
        good("2p^3 3d^2", 1, 2);
        good("2p3p4p", 1, 3);
        good("2p^6 3p^5 4p", 0, 3);
        good("2s 2p", 1, 2);
    }

    private static void bad(String text, int kind, int place) {
        AtomLadders x = new AtomLadders();
        Due.text(x, text);
        DUE.is("26 '" + text + "'", x.shells(), -10 - place);
        DUE.is("27 '" + text + "'", x.fault(), kind);
        DUE.is("48 '" + text + "'", x.count(9), 0);
    }

    private static void badTexts() {
        bad("x", 1, 0);
        bad("1S", 1, 1);
        bad("1s\t", 1, 2);
        bad("1s,2s", 1, 2);
        bad("\0", 1, 0);
        bad("1s^\u00b2", 1, 3);
        bad("111s", 1, 0);
        bad("  1234567s", 1, 2);
        bad("3d^010", 1, 3);
        bad("1s^2 123s", 1, 5);
        bad("", 2, 0);
        bad("   ", 2, 3);
        bad("1", 2, 1);
        bad("1 ", 2, 2);
        bad("1s^", 2, 3);
        bad("1s^ ", 2, 4);
        bad("s", 2, 0);
        bad("^", 2, 0);
        bad("1 1", 2, 2);
        bad("0 1", 2, 2);
        bad("1^", 2, 1);
        bad("1s^s", 2, 3);
        bad("1s^^", 2, 3);
        bad("1sp", 2, 2);
        bad("1s^2^", 2, 4);
        bad("1s^2p", 2, 4);
        bad("1s^2 3", 2, 6);
        bad("0s", 3, 0);
        bad("10s", 3, 0);
        bad("99f", 3, 0);
        bad("1p", 3, 0);
        bad("2d", 3, 0);
        bad("3f", 3, 0);
        bad(" 1 p", 3, 1);
        bad("1s^0", 3, 3);
        bad("1s^3", 3, 3);
        bad("2p^7", 3, 3);
        bad("3d^11", 3, 3);
        bad("4f^15", 3, 3);
        bad("4f^00", 3, 3);
        bad("1s1s", 4, 3);
        bad("1s 2s 1s^3", 4, 7);
        bad("2p 3p 2 p", 4, 8);
        bad("4f^13", 5, 3);
        bad("3d^10 4s^2 5s", 5, 12);
        bad("3d^10 2p^3", 5, 9);
        bad("1s 2s 3s 4s 5s", 5, 12);
        bad("1s 2s 3s 4s 0p", 5, 12);
        bad("1s 2s 3s 4s 5", 5, 12);
        orders();
    }

    /** Which fault is met first, when there are two. */
    private static void orders() {
        bad("1p1p", 3, 0);
        bad("1px", 3, 0);
        bad("1s1sx", 4, 3);
        bad("1s^3x", 3, 3);
        bad("3d^10 2p^3x", 5, 9);
        bad("3d^10 4s^2 5sx", 1, 13);
        bad("3d^10 4s^2 5sp", 5, 12);
        bad("3d^10 4s^2 5s^", 2, 14);
        bad("3d^10 4s^2 5s^3", 3, 14);
        bad("1s 2s 3s 4s x", 1, 12);
        bad("1s 2s 3s 4s s", 2, 12);
        bad("1s 2s 3s 4s 123", 1, 12);
        bad("0x", 1, 1);
        bad("0^", 2, 1);
        bad("1s 2s 3s^2 4s^2 3d^10", 5, 16);
    }

    private static void whatStays() {
        AtomLadders x = new AtomLadders();
        DUE.is("27 at first", x.fault(), 0);
        Due.text(x, "2p^3");
        DUE.is("26 told", x.shells(), 1);
        Due.text(x, "3d^10 4f^2 9s^3");
        DUE.is("26 fault", x.shells(), -24);
        DUE.is("27 fault", x.fault(), 3);
        DUE.is("26 those told stay", x.count(9), 1);
        DUE.is("26 those told stay", x.fillings(0, 3), 1);
        DUE.is("26 those told stay", x.terms(2, 1), 1);
        x.level(0, 1, 3);
        DUE.is("26 their side stays", x.missing(0), 0);
        Due.text(x, "1s 2s");
        DUE.is("26 others", x.shells(), 0);
        DUE.is("27 none now", x.fault(), 0);
        DUE.is("26 others", x.count(9), 2);
        DUE.is("26 others", x.fillings(0, 3), 0);
        DUE.is("26 others", x.fillings(0, 0), 2);
    }

    private static AtomLadders of(String text) {
        AtomLadders x = new AtomLadders();
        Due.text(x, text);
        DUE.holds("told '" + text + "'", x.shells() >= 0);
        return x;
    }

    private static long all(AtomLadders x) {
        long sum = 0;
        for (int m = -40; m <= 40; m++) {
            for (int h = -12; h <= 12; h++) {
                sum += x.fillings(m, h);
            }
        }
        return sum;
    }

    private static void fillings() {
        AtomLadders x = new AtomLadders();
        DUE.is("28 state", x.fillings(0, 0), -2);
        DUE.is("28 bad ahead of state", x.fillings(-41, 0), -1);
        DUE.is("28 bad", x.fillings(41, 0), -1);
        DUE.is("28 bad", x.fillings(0, -13), -1);
        DUE.is("28 bad", x.fillings(0, 13), -1);
        DUE.is("28 bad", x.fillings(Integer.MIN_VALUE, Integer.MIN_VALUE), -1);
        DUE.is("28 p", of("2p").fillings(1, -1), 1);
        DUE.is("28 p", of("2p").fillings(1, 0), 0);
        DUE.is("28 p^6", of("2p^6").fillings(0, 0), 1);
        DUE.is("28 p^6 in all", all(of("2p^6")), 1);
        DUE.is("28 p^3 in all", all(of("2p^3")), 20);
        DUE.is("28 d^5 in all", all(of("3d^5")), 252);
        DUE.is("28 f^7 in all", all(of("4f^7")), 3432);
        DUE.is("28 f^12 in all", all(of("4f^12")), 91);
        DUE.is("28 d^10 s s in all", all(of("3d^10 4s 5s")), 4);
        DUE.is("28 f^3 four times in all", all(of("4f^3 5f^3 6f^3 7f^3")), 364L * 364 * 364 * 364);
        DUE.is("28 the greatest M", of("4f^3 5f^3 6f^3 7f^3").fillings(32, 4), 1);
        DUE.is("28 the greatest M", of("4f^3 5f^3 6f^3 7f^3").fillings(-32, -4), 1);
        DUE.is("28 no greater M", of("4f^3 5f^3 6f^3 7f^3").fillings(33, 4), 0);
        DUE.is("28 the greatest H", of("4f^3 5f^3 6f^3 7f^3").fillings(24, 12), 1);
        DUE.is("28 edges", of("4f^3 5f^3 6f^3 7f^3").fillings(40, 12), 0);
        DUE.is("28 edges", of("4f^3 5f^3 6f^3 7f^3").fillings(-40, -12), 0);
    }

    private static void terms() {
        AtomLadders x = new AtomLadders();
        DUE.is("29 state", x.terms(0, 0), -2);
        DUE.is("29 bad", x.terms(-1, 0), -1);
        DUE.is("29 bad", x.terms(41, 0), -1);
        DUE.is("29 bad", x.terms(0, -1), -1);
        DUE.is("29 bad", x.terms(0, 13), -1);
        // d^3: 4F 4P 2H 2G 2F 2D(2) 2P
        AtomLadders d = of("3d^3");
        int[][] due = {{3, 3, 1}, {1, 3, 1}, {5, 1, 1}, {4, 1, 1}, {3, 1, 1}, {2, 1, 2}, {1, 1, 1}, {0, 1, 0},
            {2, 3, 0}, {6, 1, 0}, {0, 3, 0}, {2, 2, 0}, {2, 0, 0}, {40, 12, 0}};
        for (int[] t : due) {
            DUE.is("29 d^3 " + t[0] + " " + t[1], d.terms(t[0], t[1]), t[2]);
        }
        // d^5 has 2D three times, 6S once
        AtomLadders e = of("3d^5");
        DUE.is("29 d^5", e.terms(2, 1), 3);
        DUE.is("29 d^5", e.terms(0, 5), 1);
        DUE.is("29 d^5", e.terms(6, 1), 1);
        // f^7 has 2G ten times, 8S once
        AtomLadders f = of("4f^7");
        DUE.is("29 f^7", f.terms(4, 1), 10);
        DUE.is("29 f^7", f.terms(0, 7), 1);
        DUE.is("29 full shells", of("1s^2 2s^2 2p^6").terms(0, 0), 1);
    }

    /** Terms, each with all its places, are as many as fillings. */
    private static void greatTerms() {
        String[] texts = {"4f^3 5f^3 6f^3 7f^3", "4f^7 3d^5", "3d^3 4p 5f^2", "2p^3", "4f^11 5s"};
        for (String text : texts) {
            AtomLadders x = of(text);
            long sum = 0;
            for (int k = 0; k <= 12; k++) {
                for (int l = 0; l <= 40; l++) {
                    sum += x.terms(l, k) * (2 * l + 1) * (k + 1);
                }
            }
            DUE.is("29 all of '" + text + "'", sum, all(x));
            long places = 0;
            for (int s = 0; s <= 99; s++) {
                places += x.spins(s) * (s + 1);
            }
            DUE.is("30 all of '" + text + "'", places, all(x));
        }
    }

    private static void spins() {
        AtomLadders x = new AtomLadders();
        DUE.is("30 state", x.spins(0), -2);
        DUE.is("30 bad", x.spins(-1), -1);
        DUE.is("30 bad", x.spins(100), -1);
        // p^3: 4S 2D 2P: 3; 3, 5; 1, 3
        AtomLadders p = of("2p^3");
        long[] due = {0, 1, 0, 3, 0, 1, 0, 0};
        for (int s = 0; s < due.length; s++) {
            DUE.is("30 p^3 " + s, p.spins(s), due[s]);
        }
        DUE.is("30 edge", p.spins(99), 0);
        // the greatest: L 32 with K 4
        DUE.is("30 great", of("4f^3 5f^3 6f^3 7f^3").spins(68), of("4f^3 5f^3 6f^3 7f^3").terms(32, 4)
            + of("4f^3 5f^3 6f^3 7f^3").terms(31, 6));
    }

    private static void term() {
        AtomLadders x = new AtomLadders();
        DUE.is("31 state", x.term(0, 0), -2);
        DUE.is("31 bad", x.term(-1, 0), -1);
        DUE.is("31 bad", x.term(0, 3), -1);
        DUE.is("31 bad", x.term(0, -1), -1);
        AtomLadders d = of("3d^3");
        int[][] due = {{3, 3, 1}, {1, 3, 1}, {5, 1, 1}, {4, 1, 1}, {3, 1, 1}, {2, 1, 2}, {1, 1, 1}};
        for (int i = 0; i < due.length; i++) {
            for (int what = 0; what < 3; what++) {
                DUE.is("31 d^3 " + i + " " + what, d.term(i, what), due[i][what]);
            }
        }
        DUE.is("31 none", d.term(7, 0), -4);
        DUE.is("31 none", d.term(Integer.MAX_VALUE, 2), -4);
        DUE.is("31 bad", d.term(-1, 0), -1);
        DUE.is("31 bad", d.term(7, 3), -1);
        DUE.is("31 full", of("1s^2").term(0, 2), 1);
        DUE.is("31 full", of("1s^2").term(1, 2), -4);
    }

    private static void missing() {
        AtomLadders x = new AtomLadders();
        DUE.is("32 state", x.missing(0), -2);
        DUE.is("32 bad", x.missing(2), -1);
        DUE.is("32 bad", x.missing(-1), -1);
        Due.text(x, "2p^3");
        x.shells();
        DUE.is("32 nothing known", x.missing(0), 0);
        DUE.is("32 nothing known", x.missing(1), 5);
        x.level(0, 1, 1);
        x.level(0, 1, 1);
        x.level(0, 1, 1);
        x.level(0, 1, 3);
        x.level(0, 1, 9);
        x.level(0, 0, 5);
        // SPIN 1: 2 more, 3: 2 less, 5: 1 less, 9: 1 more
        DUE.is("32 more", x.missing(0), 3);
        DUE.is("32 less", x.missing(1), 3);
        x.level(0, 1, 5);
        DUE.is("32 more", x.missing(0), 3);
        DUE.is("32 less", x.missing(1), 2);
        Due.text(x, "1s");
        x.shells();
        DUE.is("32 the other side", x.missing(0), 1);
        DUE.is("32 the other side", x.missing(1), 1);
        Due.text(x, "2p^2");
        x.shells();
        DUE.is("32 SPIN 0 too", x.missing(1), 5);
        // f^3 has SPINS above 9, which are not counted
        AtomLadders f = of("4f^3");
        long sum = 0;
        for (int s = 0; s <= 9; s++) {
            sum += f.spins(s);
        }
        DUE.is("32 to 9 alone", f.missing(1), sum);
        DUE.holds("32 there are more", f.spins(11) > 0);
    }
}
