import java.lang.reflect.Method;
import java.util.ArrayList;
import java.util.Arrays;
import java.util.HashMap;
import java.util.List;
import java.util.Map;
import java.util.Random;

/** All promises: runs of 512 calls that chance tells (the same ones each time), held against Model. */
public final class ModelTest {
    private static final Due DUE = new Due("ModelTest");
    private static final int RUNS = 400;
    private static final int CALLS = 512;

    /** Of each call the kinds of its arguments. */
    private static final String[] CALL_KINDS = {
        "level height side spin", "height level height", "told level what4", "line place end strength", "drop",
        "about line what5", "allowed level level", "fits line", "fit line index", "give line level level", "take line",
        "giveAll", "closes", "barred", "apart level level flag", "best level what1", "rest line what1", "settle",
        "seek side spin what2", "score side spin height", "foretold", "foretoldAt index what3", "feed bytes",
        "end tape", "shells", "fault", "fillings m h", "terms l k", "spins allspin", "term index what2",
        "missing what1", "factor level factor", "pattern level level what3", "component level level component what2",
        "match sheet lane cell matched matchend", "plate line plate", "meet line line", "offset plate what1", "shift",
        "keep", "compare version what4", "back version", "undo", "sheet sheet lane size", "lay sheet cell value",
        "scan sheet lane cell scanned", "count what9"};

    private static final Map<String, Method> REAL = new HashMap<>();
    private static final Map<String, Method> DUE_TO = new HashMap<>();

    private final Random chance;
    private final int most;
    private final AtomLadders real = new AtomLadders();
    private final Model model = new Model();
    private final List<String> told = new ArrayList<>();
    private int calls;

    private ModelTest(int run) {
        chance = new Random(run);
        most = new int[] {12, 60, 400, 5000, 1000000}[run % 5];
    }

    public static void main(String[] args) throws Exception {
        for (Method m : AtomLadders.class.getDeclaredMethods()) {
            if (java.lang.reflect.Modifier.isPublic(m.getModifiers())) {
                REAL.put(m.getName(), m);
            }
        }
        for (Method m : Model.class.getDeclaredMethods()) {
            if (REAL.containsKey(m.getName())
                && Arrays.equals(m.getParameterTypes(), REAL.get(m.getName()).getParameterTypes())) {
                DUE_TO.put(m.getName(), m);
            }
        }
        DUE.is("the calls", REAL.size(), CALL_KINDS.length);
        int runs = args.length > 0 ? Integer.parseInt(args[0]) : RUNS;
        for (int run = 0; run < runs && DUE.allGood(); run++) {
            new ModelTest(run).run();
        }
        DUE.end();
    }

    private void run() throws Exception {
        int[] weights = new int[CALL_KINDS.length];
        for (int i = 0; i < weights.length; i++) {
            weights[i] = chance.nextInt(4) == 0 ? 12 : 3;
        }
        if (chance.nextInt(5) != 0) {
            buildUp();
        }
        while (calls < CALLS && DUE.allGood()) {
            if (chance.nextInt(60) == 0) {
                tellShells();
            } else if (chance.nextInt(10) == 0) {
                giveOne();
            } else {
                one(CALL_KINDS[pick(weights)].split(" "));
            }
        }
        if (!DUE.allGood()) {
            told.forEach(System.out::println);
        }
    }

    private int pick(int[] weights) {
        int at = chance.nextInt(Arrays.stream(weights).sum());
        int i = 0;
        while (at >= weights[i]) {
            at -= weights[i];
            i++;
        }
        // What can come but a few times, or ends what was built up, is to be rare.
        boolean rare = List.of("drop", "back", "keep", "settle", "shift", "take", "undo").contains(CALL_KINDS[i].split(" ")[0]);
        return rare && chance.nextInt(4) != 0 ? pick(weights) : i;
    }

    private void one(String[] kinds) throws Exception {
        Object[] arguments = new Object[kinds.length - 1];
        for (int i = 0; i < arguments.length; i++) {
            arguments[i] = argument(kinds[i + 1]);
        }
        call(kinds[0], arguments);
    }

    private long call(String name, Object... arguments) throws Exception {
        long got = ((Number) REAL.get(name).invoke(real, arguments)).longValue();
        long want = ((Number) DUE_TO.get(name).invoke(model, arguments)).longValue();
        String text = name + Arrays.toString(arguments);
        told.add(text + " " + got);
        calls++;
        DUE.is(text, got, want);
        return got;
    }

    /** Levels with many steps, lines that are about as far as levels are apart, most of them given. */
    private void buildUp() throws Exception {
        int spin = chance.nextInt(4) == 0 ? chance.nextInt(8) : 2;
        int levels = 2 + chance.nextInt(7);
        for (int k = 0; k < levels; k++) {
            call("level", chance.nextInt(most + 1), k % 2, spin + 2 * (chance.nextInt(3) / 2));
            call("factor", k, argument("factor"));
        }
        int lines = chance.nextInt(17);
        int given = chance.nextInt(5);
        int noise = 1 + chance.nextInt(most / 4);
        for (int n = 0; n < lines; n++) {
            int u = chance.nextInt(levels);
            int l = chance.nextInt(levels);
            int gap = Math.abs(real.told(u, 0) - real.told(l, 0)) + chance.nextInt(noise);
            int end = Math.min(1000, chance.nextInt(noise));
            call("line", Math.max(1, Math.min(1000000, gap)), end, 0);
            call("plate", n, chance.nextInt(4));
            if (chance.nextInt(4) < given) {
                call("give", n, u, l);
            }
            if (n > 1 && chance.nextInt(3) == 0) {
                call("meet", n, chance.nextInt(n));
            }
        }
    }

    /** A line to a step that is allowed, which by mere chance are few. */
    private void giveOne() throws Exception {
        for (int t = 0; t < 8; t++) {
            int u = chance.nextInt(8);
            int l = chance.nextInt(8);
            if (real.allowed(u, l) == 1) {
                call("give", chance.nextInt(16), u, l);
                return;
            }
        }
    }

    private void tellShells() throws Exception {
        StringBuilder text = new StringBuilder();
        int shells = 1 + chance.nextInt(chance.nextInt(4) == 0 ? 5 : 3);
        for (int s = 0; s < shells; s++) {
            int l = Math.min(chance.nextInt(4), chance.nextInt(5));
            text.append(l + 1 + chance.nextInt(9 - l)).append("spdf".charAt(l));
            if (chance.nextInt(3) != 0) {
                text.append('^').append(1 + chance.nextInt(Math.min(9, 4 * l + 2) + (chance.nextInt(9) == 0 ? 6 : 0)));
            }
            text.append("  ".substring(chance.nextInt(3)));
        }
        if (chance.nextInt(3) == 0) {
            int at = chance.nextInt(text.length());
            String other = "0123456789spdf^ x";
            text.setCharAt(at, other.charAt(chance.nextInt(other.length())));
        }
        call("end", 0);
        for (int fed = 0; fed < text.length(); fed += 8) {
            long v = 0;
            for (int i = fed; i < fed + 8; i++) {
                v = v << 8 | (i < text.length() ? text.charAt(i) : 'y');
            }
            call("feed", v);
        }
        call("end", text.length());
        told.add("'" + text + "'");
        call("shells");
        call("fault");
    }

    private int within(int least, int top) {
        int wrong = chance.nextInt(60);
        if (wrong == 0) {
            return least - 1;
        }
        if (wrong == 1) {
            return top + 1;
        }
        if (wrong == 2) {
            return new int[] {Integer.MIN_VALUE, Integer.MAX_VALUE, Integer.MIN_VALUE + 1, Integer.MAX_VALUE - 1}[
                chance.nextInt(4)];
        }
        return wrong == 3 ? least : wrong == 4 ? top : least + chance.nextInt(top - least + 1);
    }

    private Object argument(String kind) {
        if (kind.startsWith("what")) {
            return within(0, kind.charAt(4) - '0');
        }
        switch (kind) {
            case "height":
                return within(0, most);
            case "place":
                return within(1, most);
            case "end":
                return within(0, chance.nextInt(5) == 0 ? 1000 : Math.min(most / 8, 1000));
            case "strength":
                return within(0, 999);
            case "side":
                return within(0, 1);
            case "spin":
                return chance.nextInt(3) == 0 ? within(0, 9) : 2 * chance.nextInt(2) + chance.nextInt(8) / 7;
            case "allspin":
                return chance.nextBoolean() ? within(0, 99) : within(0, 20);
            case "level":
                return chance.nextInt(9) == 0 ? within(0, 7) : chance.nextInt(Math.max(1, real.count(0)));
            case "line":
                return chance.nextInt(9) == 0 ? within(0, 15) : chance.nextInt(Math.max(1, real.count(1)));
            case "index":
                return chance.nextBoolean() ? within(0, 20) : within(0, 3);
            case "component":
                return chance.nextInt(4) == 0 ? within(0, 28) : within(0, 5);
            case "flag":
                return chance.nextBoolean();
            case "bytes":
                return chance.nextLong();
            case "tape":
                return within(0, 80);
            default:
                return moreArgument(kind);
        }
    }

    private Object moreArgument(String kind) {
        switch (kind) {
            case "m":
                return chance.nextBoolean() ? within(-40, 40) : within(-6, 6);
            case "h":
                return within(-12, 12);
            case "l":
                return chance.nextBoolean() ? within(0, 40) : within(0, 8);
            case "k":
                return within(0, 12);
            case "factor":
                return chance.nextInt(3) == 0 ? within(-100, 100) : within(-2, 3);
            case "plate":
                return within(0, 3);
            case "version":
                return within(0, 3);
            case "sheet":
                return chance.nextBoolean() ? 0 : within(0, 3);
            case "lane":
                return chance.nextBoolean() ? 2 : within(0, 2);
            case "size":
                return within(chance.nextBoolean() ? 0 : 40, 60);
            case "cell":
                return chance.nextBoolean() ? within(0, 59) : within(0, 6);
            case "value":
                return chance.nextInt(3) == 0 ? chance.nextInt() : 1 + chance.nextInt(100);
            case "matched":
                return chance.nextBoolean() ? within(1, 6) : within(1, 20);
            case "matchend":
                return within(0, 1000);
            case "scanned":
                return chance.nextBoolean() ? within(0, 2) : within(0, 16);
            default:
                throw new IllegalStateException(kind);
        }
    }
}
