import java.util.List;
import java.util.function.Supplier;
import java.util.function.ToLongFunction;

/**
 * What is refused changes nothing, and what only asks changes nothing: each such call goes to one of two objects of
 * the same state, and then all that can be seen of both must be the same.
 */
public final class RefusedTest {
    private static final Due DUE = new Due("RefusedTest");
    private static final int LEAST = Integer.MIN_VALUE;
    private static final int MOST = Integer.MAX_VALUE;
    private static final int BAD = -1;
    private static final int STATE = -2;
    private static final int FULL = -3;
    private static final int NONE = -4;
    private static final long FRACTION_BAD = -1000000000000L;

    private final String name;
    private final Supplier<AtomLadders> state;

    private RefusedTest(String name, Supplier<AtomLadders> state) {
        this.name = name;
        this.state = state;
    }

    public static void main(String[] args) {
        viewsSee();
        new RefusedTest("empty", States::empty).emptyOnes();
        new RefusedTest("some", States::some).everywhere(5, 6, 2);
        new RefusedTest("some", States::some).states();
        new RefusedTest("full", States::full).everywhere(8, 16, 4);
        new RefusedTest("full", States::full).fullOnes();
        new RefusedTest("met", RefusedTest::latestMet).metOnes();
        new RefusedTest("no lines", RefusedTest::noLines).noLineOnes();
        new RefusedTest("some", States::some).asked();
        new RefusedTest("full", States::full).asked();
        new RefusedTest("some", States::some).faults();
        new RefusedTest("full", States::full).faults();
        DUE.end();
    }

    /** The same call of several numbers. */
    private interface Call {
        long of(AtomLadders x, int v);
    }

    private void same(String call, AtomLadders x, States.View view) {
        List<Long> due = States.seen(view, state.get());
        DUE.holds(name + ": nothing has changed by " + call, States.seen(view, x).equals(due));
    }

    private void refuses(String call, ToLongFunction<AtomLadders> asked, long due) {
        for (States.View view : States.views()) {
            AtomLadders x = state.get();
            DUE.is(name + ": " + call, asked.applyAsLong(x), due);
            same(call, x, view);
        }
    }

    private void outside(String call, int least, int most, Call asked, long due) {
        for (int v : new int[] {least - 1, most + 1, LEAST, MOST}) {
            refuses(call + " " + v, x -> asked.of(x, v), due);
        }
    }

    private void asks(String call, ToLongFunction<AtomLadders> asked) {
        for (States.View view : States.views()) {
            AtomLadders x = state.get();
            asked.applyAsLong(x);
            asked.applyAsLong(x);
            same(call, x, view);
        }
    }

    /** That views see: each change is seen by one of them. */
    private static void viewsSee() {
        List<ToLongFunction<AtomLadders>> changes = List.of(x -> x.level(1, 0, 1), x -> x.height(0, 7), x -> x.line(5, 0, 0),
            x -> x.drop(), x -> x.give(3, 1, 2), x -> x.take(0), x -> x.settle(), x -> x.feed(0), x -> x.end(1),
            x -> x.end(5), x -> x.shells(), x -> x.factor(3, 1), x -> x.plate(4, 0), x -> x.meet(3, 0),
            x -> x.shift(), x -> x.keep(), x -> x.back(0), x -> x.undo(), x -> x.sheet(3, 0, 0), x -> x.sheet(0, 1, 6),
            x -> x.lay(1, 1, 99), x -> x.lay(2, 5, 98), x -> x.scan(0, 0, 0, 1), x -> x.giveAll(), x -> x.height(0, 1001));
        for (int i = 0; i < changes.size(); i++) {
            int seen = 0;
            for (States.View view : States.views()) {
                AtomLadders x = States.some();
                DUE.holds("change " + i + " is taken", changes.get(i).applyAsLong(x) > -10 || i == 10);
                seen += States.seen(view, x).equals(States.seen(view, States.some())) ? 0 : 1;
            }
            DUE.holds("change " + i + " is seen", seen > 0);
        }
    }

    // ---- what is refused in each state that has some

    private void everywhere(int levels, int lines, int versions) {
        levelsAndLines(levels, lines);
        net(levels, lines);
        seeking();
        shells();
        fields(levels);
        plates(lines);
        versions(versions);
        sheets();
    }

    private void levelsAndLines(int levels, int lines) {
        int k = levels - 1;
        int n = lines - 1;
        outside("2 HEIGHT", 0, 1000000, (x, v) -> x.level(v, 0, 0), BAD);
        outside("2 SIDE", 0, 1, (x, v) -> x.level(0, v, 0), BAD);
        outside("2 SPIN", 0, 9, (x, v) -> x.level(0, 0, v), BAD);
        outside("3 LEVEL", 0, k, (x, v) -> x.height(v, 0), BAD);
        outside("3 HEIGHT", 0, 1000000, (x, v) -> x.height(0, v), BAD);
        outside("4 LEVEL", 0, k, (x, v) -> x.told(v, 3), BAD);
        outside("4 what", 0, 4, (x, v) -> x.told(0, v), BAD);
        outside("5 PLACE", 1, 1000000, (x, v) -> x.line(v, 0, 0), BAD);
        outside("5 END", 0, 1000, (x, v) -> x.line(1, v, 0), BAD);
        outside("5 STRENGTH", 0, 999, (x, v) -> x.line(1, 0, v), BAD);
        outside("7 LINE", 0, n, (x, v) -> x.about(v, 0), BAD);
        outside("7 what", 0, 5, (x, v) -> x.about(0, v), BAD);
        outside("8 u", 0, k, (x, v) -> x.allowed(v, 0), BAD);
        outside("8 l", 0, k, (x, v) -> x.allowed(0, v), BAD);
        outside("9 LINE", 0, n, (x, v) -> x.fits(v), BAD);
        outside("10 LINE", 0, n, (x, v) -> x.fit(v, 0), BAD);
        refuses("10 i", x -> x.fit(0, -1), BAD);
        refuses("10 none", x -> x.fit(0, 64), NONE);
        outside("11 LINE", 0, n, (x, v) -> x.give(v, 1, 0), BAD);
        outside("11 u", 0, k, (x, v) -> x.give(0, v, 0), BAD);
        outside("11 l", 0, k, (x, v) -> x.give(0, 0, v), BAD);
        refuses("11 not ALLOWED", x -> x.give(0, 0, 2), STATE);
        refuses("11 one and the same", x -> x.give(n, 1, 1), STATE);
        outside("12 LINE", 0, n, (x, v) -> x.take(v), BAD);
        refuses("12 not GIVEN", x -> x.take(3), STATE);
        refuses("12 not GIVEN", x -> x.take(n), STATE);
    }

    private void net(int levels, int lines) {
        outside("16 u", 0, levels - 1, (x, v) -> x.apart(v, 0, true), -10000000);
        outside("16 l", 0, levels - 1, (x, v) -> x.apart(0, v, false), -10000000);
        refuses("16 one and the same", x -> x.apart(1, 1, true), -10000000);
        outside("17 LEVEL", 0, levels - 1, (x, v) -> x.best(v, 0), FRACTION_BAD);
        outside("17 what", 0, 1, (x, v) -> x.best(0, v), FRACTION_BAD);
        outside("18 LINE", 0, lines - 1, (x, v) -> x.rest(v, 0), FRACTION_BAD);
        outside("18 what", 0, 1, (x, v) -> x.rest(0, v), FRACTION_BAD);
        refuses("18 not GIVEN", x -> x.rest(lines - 1, 0), -1000000000002L);
    }

    private void seeking() {
        outside("20 SIDE", 0, 1, (x, v) -> x.seek(v, 2, 0), BAD);
        outside("20 SPIN", 0, 9, (x, v) -> x.seek(1, v, 0), BAD);
        outside("20 what", 0, 2, (x, v) -> x.seek(1, 2, v), BAD);
        refuses("20 nothing can be tried", x -> x.seek(0, 9, 2), NONE);
        outside("21 SIDE", 0, 1, (x, v) -> x.score(v, 2, 0), BAD);
        outside("21 SPIN", 0, 9, (x, v) -> x.score(1, v, 0), BAD);
        outside("21 HEIGHT", 0, 1000000, (x, v) -> x.score(1, 2, v), BAD);
        refuses("23 i", x -> x.foretoldAt(-1, 0), BAD);
        refuses("23 none", x -> x.foretoldAt(28, 0), NONE);
        outside("23 what", 0, 3, (x, v) -> x.foretoldAt(0, v), BAD);
    }

    private void shells() {
        int length = state.get().count(5);
        outside("25 n", 0, length, (x, v) -> x.end(v), BAD);
        outside("28 M", -40, 40, (x, v) -> x.fillings(v, 0), BAD);
        outside("28 H", -12, 12, (x, v) -> x.fillings(0, v), BAD);
        outside("29 L", 0, 40, (x, v) -> x.terms(v, 0), BAD);
        outside("29 K", 0, 12, (x, v) -> x.terms(0, v), BAD);
        outside("30 SPIN", 0, 99, (x, v) -> x.spins(v), BAD);
        refuses("31 i", x -> x.term(-1, 0), BAD);
        outside("31 what", 0, 2, (x, v) -> x.term(0, v), BAD);
        refuses("31 none", x -> x.term(MOST, 0), NONE);
        outside("32 what", 0, 1, (x, v) -> x.missing(v), BAD);
    }

    private void fields(int levels) {
        outside("33 LEVEL", 0, levels - 1, (x, v) -> x.factor(v, 1), -1000);
        outside("33 FACTOR", -100, 100, (x, v) -> x.factor(0, v), -1000);
        outside("34 u", 0, levels - 1, (x, v) -> x.pattern(v, 0, 0), BAD);
        outside("34 l", 0, levels - 1, (x, v) -> x.pattern(0, v, 0), BAD);
        outside("34 what", 0, 3, (x, v) -> x.pattern(0, 1, v), BAD);
        refuses("34 not ALLOWED", x -> x.pattern(0, 2, 0), STATE);
        outside("35 u", 0, levels - 1, (x, v) -> x.component(v, 0, 0, 0), -1000000);
        outside("35 l", 0, levels - 1, (x, v) -> x.component(0, v, 0, 0), -1000000);
        outside("35 i", 0, 29, (x, v) -> x.component(0, 1, v, 0), -1000000);
        outside("35 what", 0, 2, (x, v) -> x.component(0, 1, 0, v), -1000000);
        refuses("35 not ALLOWED", x -> x.component(0, 2, 0, 0), -1000002);
        outside("36 k", 0, 3, (x, v) -> x.match(v, 0, 0, 1, 0), BAD);
        outside("36 lane", 0, 2, (x, v) -> x.match(0, v, 0, 1, 0), BAD);
        outside("36 n", 1, 20, (x, v) -> x.match(0, 0, 0, v, 0), BAD);
        outside("36 e", 0, 1000, (x, v) -> x.match(0, 0, 0, 1, v), BAD);
        refuses("36 NULL", x -> x.match(3, 0, 0, 1, 0), -11);
        refuses("36 CAST", x -> x.match(1, 0, 0, 1, 0), -13);
        outside("36 f", 0, 59, (x, v) -> x.match(0, 0, v, 1, 0), -12);
    }

    private void plates(int lines) {
        outside("37 LINE", 0, lines - 1, (x, v) -> x.plate(v, 1), BAD);
        outside("37 PLATE", 0, 3, (x, v) -> x.plate(lines - 1, v), BAD);
        refuses("37 in a MEETING", x -> x.plate(0, 3), STATE);
        refuses("37 in a MEETING", x -> x.plate(1, 2), STATE);
        outside("38 i", 0, lines - 1, (x, v) -> x.meet(v, 0), BAD);
        outside("38 j", 0, lines - 1, (x, v) -> x.meet(0, v), BAD);
        refuses("38 of one PLATE", x -> x.meet(0, 0), BAD);
        outside("39 PLATE", 0, 3, (x, v) -> x.offset(v, 0), FRACTION_BAD);
        outside("39 what", 0, 1, (x, v) -> x.offset(0, v), FRACTION_BAD);
    }

    private void versions(int versions) {
        outside("42 VERSION", 0, versions - 1, (x, v) -> x.compare(v, 0), BAD);
        outside("42 what", 0, 4, (x, v) -> x.compare(0, v), BAD);
        outside("43 VERSION", 0, versions - 1, (x, v) -> x.back(v), BAD);
    }

    private void sheets() {
        int size = state.get().count(4);
        outside("45 k", 0, 3, (x, v) -> x.sheet(v, 0, 5), BAD);
        outside("45 lane", 0, 2, (x, v) -> x.sheet(0, v, 5), BAD);
        for (int n : new int[] {61, MOST}) {
            refuses("45 n " + n, x -> x.sheet(0, 0, n), BAD);
            refuses("45 n " + n, x -> x.sheet(3, 2, n), BAD);
        }
        for (int n : new int[] {-1, LEAST}) {
            refuses("45 SIZE " + n, x -> x.sheet(0, 0, n), -14);
            refuses("45 SIZE " + n, x -> x.sheet(3, 2, n), -14);
        }
        outside("46 k", 0, 3, (x, v) -> x.lay(v, 0, 77), BAD);
        refuses("46 NULL", x -> x.lay(3, 0, 77), -11);
        for (int k = 0; k < 3; k++) {
            int kept = k;
            outside("46 i of SHEET " + k, 0, size - 1, (x, v) -> x.lay(kept, v, 77), -12);
        }
        outside("47 k", 0, 3, (x, v) -> x.scan(v, 0, 0, 1), BAD);
        outside("47 lane", 0, 2, (x, v) -> x.scan(0, v, 0, 1), BAD);
        outside("47 n", 0, 16, (x, v) -> x.scan(0, 0, 0, v), BAD);
        refuses("47 NULL", x -> x.scan(3, 0, 0, 1), -11);
        refuses("47 CAST", x -> x.scan(0, 1, 0, 1), -13);
        outside("47 f", 0, size - 3, (x, v) -> x.scan(0, 0, v, 1), -12);
        outside("48 what", 0, 9, (x, v) -> x.count(v), BAD);
    }

    // ---- what is refused in one state alone

    private void emptyOnes() {
        refuses("6 none", AtomLadders::drop, NONE);
        refuses("3 no LEVEL", x -> x.height(0, 0), BAD);
        refuses("11 no LINE", x -> x.give(0, 0, 0), BAD);
        refuses("12 no LINE", x -> x.take(0), BAD);
        refuses("20 nothing can be tried", x -> x.seek(1, 2, 0), NONE);
        refuses("23 none", x -> x.foretoldAt(0, 0), NONE);
        refuses("25 n", x -> x.end(1), BAD);
        refuses("28 no shells", x -> x.fillings(0, 0), STATE);
        refuses("29 no shells", x -> x.terms(0, 0), STATE);
        refuses("30 no shells", x -> x.spins(0), STATE);
        refuses("31 no shells", x -> x.term(0, 0), STATE);
        refuses("32 no shells", x -> x.missing(0), STATE);
        refuses("33 no LEVEL", x -> x.factor(0, 0), -1000);
        refuses("37 no LINE", x -> x.plate(0, 0), BAD);
        refuses("38 no LINE", x -> x.meet(0, 1), BAD);
        refuses("42 none kept", x -> x.compare(0, 0), BAD);
        refuses("43 none kept", x -> x.back(0), BAD);
        refuses("44 none", AtomLadders::undo, NONE);
        refuses("45 SIZE", x -> x.sheet(0, 0, -1), -14);
        refuses("46 NULL", x -> x.lay(0, 0, 0), -11);
        refuses("47 NULL", x -> x.scan(0, 0, 0, 1), -11);
    }

    private void states() {
        refuses("16 not of one PART", x -> x.apart(0, 4, true), -10000004);
        refuses("38 of one PLATE", x -> x.meet(1, 3), BAD);
        refuses("47 what line() refuses", x -> {
            x.sheet(0, 2, 6);
            return -99;
        }, -99, x -> x.scan(0, 2, 0, 1), -21);
    }

    /** What comes ahead belongs to the state: it goes to both objects. */
    private void refuses(String call, ToLongFunction<AtomLadders> ahead, long first, ToLongFunction<AtomLadders> asked,
        long due) {
        new RefusedTest(name, () -> {
            AtomLadders x = state.get();
            DUE.is(name + ": ahead of " + call, ahead.applyAsLong(x), first);
            return x;
        }).refuses(call, asked, due);
    }

    private void fullOnes() {
        refuses("2 full", x -> x.level(0, 0, 0), FULL);
        refuses("5 full", x -> x.line(1, 0, 0), FULL);
        refuses("24 full", x -> x.feed(-1L), FULL);
        refuses("38 full", x -> x.meet(0, 1), FULL);
        refuses("41 full", AtomLadders::keep, FULL);
        refuses("47 FULL", x -> x.scan(0, 0, 0, 1), -23);
        refuses("47 the second is refused", AtomLadders::drop, 15, x -> x.scan(0, 0, 0, 2), -21);
        refuses("47 INDEX", AtomLadders::drop, 15, x -> x.scan(0, 0, 58, 1), -12);
        refuses("15 more than 12", x -> x.give(3, 1, 0) + x.give(4, 1, 0), 2, AtomLadders::barred, STATE);
        refuses("16 can not CLOSE", x -> x.apart(0, 7, true), -10000002);
    }

    private static AtomLadders latestMet() {
        AtomLadders x = States.some();
        x.meet(5, 1);
        return x;
    }

    private void metOnes() {
        refuses("6 in a MEETING", AtomLadders::drop, STATE);
        refuses("37 in a MEETING", x -> x.plate(5, 3), STATE);
    }

    private static AtomLadders noLines() {
        AtomLadders x = new AtomLadders();
        x.level(5, 0, 2);
        x.height(0, 6);
        x.settle();
        return x;
    }

    private void noLineOnes() {
        refuses("6 none, ACTS stay", AtomLadders::drop, NONE);
        refuses("20 nothing can be tried", x -> x.seek(1, 2, 0), NONE);
    }

    // ---- what asks

    private void asked() {
        for (int v = 0; v < 3; v++) {
            int i = v;
            asks("4 told", x -> x.told(i, 3) + x.told(i, 4));
            asks("7 about", x -> x.about(i, i));
            asks("8 allowed", x -> x.allowed(i, 1));
            asks("9 fits", x -> x.fits(i));
            asks("10 fit", x -> x.fit(i, 0));
            asks("16 apart", x -> x.apart(i, 3, i == 0));
            asks("17 best", x -> x.best(i, 0));
            asks("18 rest", x -> x.rest(i, 1));
            asks("20 seek", x -> x.seek(1, 2, i));
            asks("21 score", x -> x.score(1, 2, 1000 + i));
            asks("23 foretoldAt", x -> x.foretoldAt(i, 3));
            asks("28 fillings", x -> x.fillings(i, 1));
            asks("29 terms", x -> x.terms(i, 1));
            asks("30 spins", x -> x.spins(i));
            asks("31 term", x -> x.term(i, 2));
            asks("34 pattern", x -> x.pattern(i, 1, 0));
            asks("35 component", x -> x.component(1, 0, i, 2));
            asks("36 match", x -> x.match(i, i, 0, 3, 1000));
            asks("39 offset", x -> x.offset(i, 0));
            asks("42 compare", x -> x.compare(1, i));
            asks("48 count", x -> x.count(i + 2));
        }
        asks("14 closes", AtomLadders::closes);
        asks("15 barred", AtomLadders::barred);
        asks("22 foretold", AtomLadders::foretold);
        asks("27 fault", AtomLadders::fault);
        asks("32 missing", x -> x.missing(0) + x.missing(1));
    }

    // ---- a FAULT of shells() empties THE TAPE and is told by fault(): all else stays

    private void faults() {
        String[] texts = {"x", "s", "0s", "1s1s", "4f^13", "4f^12 5s", "1s 2s 3s 4s 5s"};
        int[] kinds = {1, 2, 3, 4, 5, 5, 5};
        for (int i = 0; i < texts.length; i++) {
            String text = texts[i];
            int kind = kinds[i];
            for (States.View view : States.views()) {
                AtomLadders x = state.get();
                AtomLadders twin = state.get();
                Due.text(x, text);
                DUE.holds("26 a FAULT in '" + text + "'", x.shells() <= -10);
                DUE.is("27 '" + text + "'", x.fault(), kind);
                // the twin's TAPE and fault() come to the same by the shortest text with that FAULT
                Due.text(twin, texts[kind - 1]);
                twin.shells();
                DUE.holds(name + ": nothing else has changed by '" + text + "'",
                    States.seen(view, x).equals(States.seen(view, twin)));
            }
            shellsStay(text);
        }
    }

    private void shellsStay(String text) {
        AtomLadders x = state.get();
        AtomLadders twin = state.get();
        Due.text(x, text);
        x.shells();
        DUE.is("26 as many shells", x.count(9), twin.count(9));
        DUE.is("26 none on THE TAPE", x.count(5), 0);
        for (int i = 0; i < 20; i++) {
            for (int what = 0; what < 3; what++) {
                DUE.is("26 TERMS stay", x.term(i, what), twin.term(i, what));
            }
            DUE.is("26 SPINS stay", x.spins(i), twin.spins(i));
        }
        DUE.is("26 the SIDE stays", x.missing(0), twin.missing(0));
        DUE.is("26 the SIDE stays", x.missing(1), twin.missing(1));
    }
}
