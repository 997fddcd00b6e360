import java.lang.reflect.Method;
import java.lang.reflect.Modifier;
import java.util.ArrayList;
import java.util.Arrays;
import java.util.HashMap;
import java.util.List;
import java.util.Map;
import java.util.TreeSet;

/**
 * Each call with each of its numbers at and beside its bounds and at the ends of int, the others within theirs, at
 * theirs, or beyond: held against Model, in states that have nothing, something, and as much as there can be.
 */
public final class EndsTest {
    private static final Due DUE = new Due("EndsTest");
    private static final int MOST_CALLS = 512;

    /** Of each call the bounds of its numbers: from the least to the greatest, or to that of what is there. */
    private static final String[] CALLS = {
        "level 0:1000000 0:1 0:9", "height 0:levels 0:1000000", "told 0:levels 0:4", "line 1:1000000 0:1000 0:999",
        "about 0:lines 0:5", "allowed 0:levels 0:levels", "fits 0:lines", "fit 0:lines 0:31",
        "give 0:lines 0:levels 0:levels", "take 0:lines", "apart 0:levels 0:levels flag", "best 0:levels 0:1",
        "rest 0:lines 0:1", "seek 0:1 0:9 0:2", "score 0:1 0:9 0:1000000", "foretoldAt 0:15 0:3", "end 0:tape",
        "fillings -40:40 -12:12", "terms 0:40 0:12", "spins 0:99", "term 0:8 0:2", "missing 0:1",
        "factor 0:levels -100:100", "pattern 0:levels 0:levels 0:3", "component 0:levels 0:levels 0:27 0:2",
        "match 0:3 0:2 0:cells 1:20 0:1000", "plate 0:lines 0:3", "meet 0:lines 0:lines", "offset 0:3 0:1",
        "compare 0:versions 0:4", "back 0:versions", "sheet 0:3 0:2 0:60", "lay 0:3 0:cells 127:32768",
        "scan 0:3 0:2 0:cells 0:16", "count 0:9"};

    private static final Map<String, Method> REAL = new HashMap<>();
    private static final Map<String, Method> DUE_TO = new HashMap<>();

    private final int kind;
    private AtomLadders real;
    private Model model;
    private int calls;

    private EndsTest(int kind) throws Exception {
        this.kind = kind;
        anew();
    }

    public static void main(String[] args) throws Exception {
        for (Method m : AtomLadders.class.getDeclaredMethods()) {
            if (Modifier.isPublic(m.getModifiers())) {
                REAL.put(m.getName(), m);
            }
        }
        for (Method m : Model.class.getDeclaredMethods()) {
            if (REAL.containsKey(m.getName())
                && Arrays.equals(m.getParameterTypes(), REAL.get(m.getName()).getParameterTypes())) {
                DUE_TO.put(m.getName(), m);
            }
        }
        for (int kind = 0; kind < 3; kind++) {
            for (String call : CALLS) {
                new EndsTest(kind).sweep(call.split(" "));
            }
        }
        DUE.end();
    }

    private long call(String name, Object... arguments) throws Exception {
        long got = ((Number) REAL.get(name).invoke(real, arguments)).longValue();
        long want = ((Number) DUE_TO.get(name).invoke(model, arguments)).longValue();
        calls++;
        DUE.is("state " + kind + ", " + name + Arrays.toString(arguments), got, want);
        return got;
    }

    /** The state again: an object is good for 512 calls. */
    private void anew() throws Exception {
        real = new AtomLadders();
        model = new Model();
        calls = 0;
        int levels = new int[] {0, 3, 8}[kind];
        int lines = new int[] {0, 4, 16}[kind];
        for (int k = 0; k < levels; k++) {
            call("level", 100 * k, k % 2, 2);
            call("factor", k, 10 * k - 25);
        }
        for (int n = 0; n < lines; n++) {
            call("line", 100 + n, n % 3, n);
            call("plate", n, n % 4);
        }
        for (int i = 0; i < new int[] {0, 2, 12}[kind]; i++) {
            call("meet", i, i + 1);
        }
        for (int n = 0; n < lines - 2; n++) {
            call("give", n, n % (levels - 1) + 1, n % (levels - 1));
        }
        for (int v = 0; v < new int[] {0, 2, 4}[kind]; v++) {
            call("keep");
            call("height", 0, v);
        }
        if (kind > 0) {
            tell();
        }
    }

    private void tell() throws Exception {
        call("feed", 0x32705E3320202020L);
        call("shells");
        for (int i = 0; i < (kind == 1 ? 2 : 10); i++) {
            call("feed", 0x3273202020202020L);
        }
        for (int k = 0; k < 3; k++) {
            call("sheet", k, k, kind == 1 ? 6 : 60);
            for (int i = 0; i < 6; i++) {
                call("lay", k, i, 10 + i);
            }
        }
    }

    private int bound(String text) {
        switch (text) {
            case "levels":
                return real.count(0) - 1;
            case "lines":
                return real.count(1) - 1;
            case "tape":
                return real.count(5);
            case "versions":
                return real.count(7) - 1;
            case "cells":
                return real.count(4);
            default:
                return Integer.parseInt(text);
        }
    }

    /** At the bounds, beside them, near the ends of int. */
    private List<Object> edges(String bounds) {
        if (bounds.equals("flag")) {
            return List.of(false, true);
        }
        String[] both = bounds.split(":");
        int least = bound(both[0]);
        int most = bound(both[1]);
        TreeSet<Integer> all = new TreeSet<>(List.of(Integer.MIN_VALUE, Integer.MIN_VALUE + 1, least - 1, least,
            least + 1, most - 1, most, most + 1, Integer.MAX_VALUE - 1, Integer.MAX_VALUE));
        return new ArrayList<>(all);
    }

    /** Inside, both bounds, and one number beyond: what the other numbers are meanwhile. */
    private List<Object> few(String bounds) {
        if (bounds.equals("flag")) {
            return List.of(true);
        }
        String[] both = bounds.split(":");
        int least = bound(both[0]);
        int most = bound(both[1]);
        return new ArrayList<>(new TreeSet<>(List.of(least, least + (most - least) / 2, most, most + 1)));
    }

    /** Each two numbers with all their edges, the others with few. */
    private void sweep(String[] kinds) throws Exception {
        int numbers = kinds.length - 1;
        List<Object[]> all = new ArrayList<>();
        TreeSet<String> known = new TreeSet<>();
        for (int a = 0; a < numbers; a++) {
            for (int b = a; b < numbers; b++) {
                List<List<Object>> rows = new ArrayList<>();
                for (int i = 0; i < numbers; i++) {
                    rows.add(i == a || i == b ? edges(kinds[i + 1]) : few(kinds[i + 1]));
                }
                combine(rows, new Object[numbers], 0, all, known);
            }
        }
        for (Object[] arguments : all) {
            if (calls >= MOST_CALLS - 1) {
                anew();
            }
            call(kinds[0], arguments);
        }
    }

    private static void combine(List<List<Object>> rows, Object[] chosen, int at, List<Object[]> all,
        TreeSet<String> known) {
        if (at == chosen.length) {
            if (known.add(Arrays.toString(chosen))) {
                all.add(chosen.clone());
            }
            return;
        }
        for (Object v : rows.get(at)) {
            chosen[at] = v;
            combine(rows, chosen, at + 1, all, known);
        }
    }
}
