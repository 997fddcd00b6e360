/** Counts and prints the calls whose answer is not the one that is due. */
final class Due {
    private final String name;
    private int asked;
    private int wrong;

    Due(String name) {
        this.name = name;
    }

    void is(String call, long got, long want) {
        asked++;
        if (got != want) {
            wrong++;
            System.out.println(name + ": " + call + " answered " + got + ", due is " + want);
        }
    }

    void holds(String what, boolean good) {
        is(what, good ? 1 : 0, 1);
    }

    boolean allGood() {
        return wrong == 0;
    }

    void end() {
        System.out.println(name + ": " + asked + " asked, " + wrong + " wrong");
        if (wrong != 0) {
            System.exit(1);
        }
    }

    /** Puts a text on the tape, whatever was on it. */
    static void text(AtomLadders x, String text) {
        x.end(0);
        int fed = 0;
        while (fed < text.length()) {
            long v = 0;
            for (int i = 0; i < 8; i++) {
                v = v << 8 | (fed + i < text.length() ? text.charAt(fed + i) & 255 : 32);
            }
            x.feed(v);
            fed += 8;
        }
        x.end(text.length());
    }
}
