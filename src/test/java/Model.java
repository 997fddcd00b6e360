import java.math.BigInteger;
import java.util.ArrayDeque;
import java.util.ArrayList;
import java.util.Arrays;
import java.util.Comparator;
import java.util.HashMap;
import java.util.List;
import java.util.Map;
import java.util.Objects;
import java.util.TreeMap;
import java.util.TreeSet;
import java.util.regex.Matcher;
import java.util.regex.Pattern;

/**
 * The document once more, by other ways than the class goes: lists and maps, fractions of BigIntegers,
 * all subsets, all fillings, texts by regular expressions. Slow and plain: what the class is held against.
 */
final class Model {
    static final class Level {
        int height;
        int side;
        int spin;
        int factor;
    }

    static final class Line {
        int place;
        int end;
        int strength;
        int plate;
        int[] step;
    }

    /** Heights, and the steps of lines, copied. */
    static final class Kept {
        final List<Integer> heights = new ArrayList<>();
        final List<int[]> steps = new ArrayList<>();
    }

    private final List<Level> levels = new ArrayList<>();
    private final List<Line> lines = new ArrayList<>();
    private final List<Line[]> meetings = new ArrayList<>();
    private final List<Kept> versions = new ArrayList<>();
    private final ArrayDeque<Kept> acts = new ArrayDeque<>();
    private final Object[] sheets = new Object[4];
    private StringBuilder tape = new StringBuilder();
    private int fault;
    private List<int[]> shells = new ArrayList<>();
    private Map<List<Integer>, Long> ways = new HashMap<>();

    private boolean noLevel(int k) {
        return k < 0 || k >= levels.size();
    }

    private boolean noLine(int n) {
        return n < 0 || n >= lines.size();
    }

    private static boolean out(int v, int least, int most) {
        return v < least || v > most;
    }

    private Kept copy() {
        Kept kept = new Kept();
        for (Level k : levels) {
            kept.heights.add(k.height);
        }
        for (Line n : lines) {
            kept.steps.add(n.step == null ? null : n.step.clone());
        }
        return kept;
    }

    private int restore(Kept kept) {
        int changed = 0;
        for (int k = 0; k < Math.min(levels.size(), kept.heights.size()); k++) {
            changed += levels.get(k).height != kept.heights.get(k) ? 1 : 0;
            levels.get(k).height = kept.heights.get(k);
        }
        for (int n = 0; n < Math.min(lines.size(), kept.steps.size()); n++) {
            changed += Arrays.equals(lines.get(n).step, kept.steps.get(n)) ? 0 : 1;
            lines.get(n).step = kept.steps.get(n) == null ? null : kept.steps.get(n).clone();
        }
        return changed;
    }

    private void act() {
        acts.addLast(copy());
        if (acts.size() > 6) {
            acts.removeFirst();
        }
    }

    int level(int height, int side, int spin) {
        if (out(height, 0, 1000000) || out(side, 0, 1) || out(spin, 0, 9)) {
            return -1;
        }
        if (levels.size() == 8) {
            return -3;
        }
        Level k = new Level();
        k.height = height;
        k.side = side;
        k.spin = spin;
        levels.add(k);
        return levels.size() - 1;
    }

    int height(int k, int v) {
        if (noLevel(k) || out(v, 0, 1000000)) {
            return -1;
        }
        act();
        int old = levels.get(k).height;
        levels.get(k).height = v;
        return old;
    }

    private TreeSet<Integer> partOf(int k) {
        TreeSet<Integer> part = new TreeSet<>(List.of(k));
        for (boolean more = true; more;) {
            more = false;
            for (Line n : lines) {
                if (n.step != null && (part.contains(n.step[0]) || part.contains(n.step[1]))) {
                    more |= part.add(n.step[0]) | part.add(n.step[1]);
                }
            }
        }
        return part;
    }

    int told(int k, int what) {
        if (noLevel(k) || out(what, 0, 4)) {
            return -1;
        }
        Level level = levels.get(k);
        int given = 0;
        for (Line n : lines) {
            given += n.step != null && (n.step[0] == k || n.step[1] == k) ? 1 : 0;
        }
        return new int[] {level.height, level.side, level.spin, partOf(k).first(), given}[what];
    }

    int line(int place, int end, int strength) {
        if (out(place, 1, 1000000) || out(end, 0, 1000) || out(strength, 0, 999)) {
            return -1;
        }
        if (lines.size() == 16) {
            return -3;
        }
        Line n = new Line();
        n.place = place;
        n.end = end;
        n.strength = strength;
        lines.add(n);
        return lines.size() - 1;
    }

    private boolean met(Line n) {
        for (Line[] m : meetings) {
            if (m[0] == n || m[1] == n) {
                return true;
            }
        }
        return false;
    }

    int drop() {
        if (lines.isEmpty()) {
            return -4;
        }
        if (met(lines.get(lines.size() - 1))) {
            return -2;
        }
        lines.remove(lines.size() - 1);
        acts.clear();
        return lines.size();
    }

    int about(int n, int what) {
        if (noLine(n) || out(what, 0, 5)) {
            return -1;
        }
        Line line = lines.get(n);
        int[] step = line.step == null ? new int[] {-4, -4} : line.step;
        return new int[] {line.place, line.end, line.strength, step[0], step[1], line.plate}[what];
    }

    private static boolean rule(int side, int spin, int otherSide, int otherSpin) {
        boolean spinsGo = spin == otherSpin || spin == otherSpin + 2 || spin + 2 == otherSpin;
        return side != otherSide && spinsGo && !(spin == 0 && otherSpin == 0);
    }

    private boolean step(int u, int l) {
        Level a = levels.get(u);
        Level b = levels.get(l);
        return rule(a.side, a.spin, b.side, b.spin);
    }

    int allowed(int u, int l) {
        return noLevel(u) || noLevel(l) ? -1 : step(u, l) ? 1 : 0;
    }

    private List<Integer> fitting(Line n) {
        List<Integer> all = new ArrayList<>();
        for (int u = 0; u < levels.size(); u++) {
            for (int l = 0; l < levels.size(); l++) {
                int gap = levels.get(u).height - levels.get(l).height - n.place;
                if (step(u, l) && gap <= n.end && -gap <= n.end) {
                    all.add(8 * u + l);
                }
            }
        }
        return all;
    }

    int fits(int n) {
        return noLine(n) ? -1 : fitting(lines.get(n)).size();
    }

    int fit(int n, int i) {
        if (noLine(n) || i < 0) {
            return -1;
        }
        List<Integer> all = fitting(lines.get(n));
        return i < all.size() ? all.get(i) : -4;
    }

    int give(int n, int u, int l) {
        if (noLine(n) || noLevel(u) || noLevel(l)) {
            return -1;
        }
        if (!step(u, l)) {
            return -2;
        }
        act();
        lines.get(n).step = new int[] {u, l};
        return 1;
    }

    int take(int n) {
        if (noLine(n)) {
            return -1;
        }
        if (lines.get(n).step == null) {
            return -2;
        }
        act();
        lines.get(n).step = null;
        return 1;
    }

    int giveAll() {
        act();
        int given = 0;
        for (Line n : lines) {
            List<Integer> all = fitting(n);
            if (n.step == null && all.size() == 1) {
                n.step = new int[] {all.get(0) / 8, all.get(0) % 8};
                given++;
            }
        }
        return given;
    }

    // ---- the net

    private List<Line> given() {
        List<Line> all = new ArrayList<>();
        for (Line n : lines) {
            if (n.step != null) {
                all.add(n);
            }
        }
        return all;
    }

    /** Bellman and Ford: heights from all 0, until nothing gets lower; more rounds than levels: a bad ring. */
    private boolean canClose(List<Line> net) {
        long[] h = new long[8];
        for (int round = 0; round < 10; round++) {
            boolean lower = false;
            for (Line n : net) {
                int u = n.step[0];
                int l = n.step[1];
                if (h[u] > h[l] + n.place + n.end) {
                    h[u] = h[l] + n.place + n.end;
                    lower = true;
                }
                if (h[l] > h[u] - n.place + n.end) {
                    h[l] = h[u] - n.place + n.end;
                    lower = true;
                }
            }
            if (!lower) {
                return true;
            }
        }
        return false;
    }

    int closes() {
        return canClose(given()) ? 1 : 0;
    }

    int barred() {
        List<Line> net = given();
        if (net.size() > 12) {
            return -2;
        }
        int best = -1;
        for (int mask = 0; mask < 1 << net.size(); mask++) {
            if (best < 0 || Integer.bitCount(mask) < Integer.bitCount(best)) {
                List<Line> left = new ArrayList<>();
                for (int i = 0; i < net.size(); i++) {
                    if ((mask >> i & 1) == 0) {
                        left.add(net.get(i));
                    }
                }
                if (canClose(left)) {
                    best = mask;
                }
            }
        }
        int sum = 0;
        for (int i = 0; i < net.size(); i++) {
            sum += (best >> i & 1) == 1 ? 1 << lines.indexOf(net.get(i)) : 0;
        }
        return sum;
    }

    int apart(int u, int l, boolean high) {
        if (noLevel(u) || noLevel(l) || u == l) {
            return -10000000;
        }
        if (!canClose(given())) {
            return -10000002;
        }
        if (!partOf(u).contains(l)) {
            return -10000004;
        }
        return (int) (high ? longest(u, l) : -longest(l, u));
    }

    /** The greatest by which u can be above l: the shortest way from l, round by round. */
    private long longest(int u, int l) {
        long far = Long.MAX_VALUE / 4;
        long[] way = new long[8];
        Arrays.fill(way, far);
        way[l] = 0;
        for (int round = 0; round < 8; round++) {
            for (Line n : given()) {
                int a = n.step[0];
                int b = n.step[1];
                way[a] = Math.min(way[a], way[b] + n.place + n.end);
                way[b] = Math.min(way[b], way[a] - n.place + n.end);
            }
        }
        return way[u];
    }

    /** Normal equations by fractions, with rows swapped for a pivot; {numerators, denominators}. */
    private static BigInteger[][] leastSquares(int size, List<long[]> ties) {
        Fraction[][] a = new Fraction[size][size + 1];
        for (Fraction[] row : a) {
            Arrays.fill(row, Fraction.of(0));
        }
        int[] root = new int[size];
        for (int k = 0; k < size; k++) {
            root[k] = k;
        }
        for (int round = 0; round < size; round++) {
            for (long[] t : ties) {
                int least = Math.min(root[(int) t[0]], root[(int) t[1]]);
                root[(int) t[0]] = least;
                root[(int) t[1]] = least;
            }
        }
        for (long[] t : ties) {
            int[] ends = {(int) t[0], (int) t[1]};
            for (int i = 0; i < 2; i++) {
                int me = ends[i];
                int other = ends[1 - i];
                a[me][me] = a[me][me].plus(Fraction.of(1));
                a[me][other] = a[me][other].plus(Fraction.of(-1));
                a[me][size] = a[me][size].plus(Fraction.of(i == 0 ? t[2] : -t[2]));
            }
        }
        for (int k = 0; k < size; k++) {
            if (root[k] == k) {
                Arrays.fill(a[k], Fraction.of(0));
                a[k][k] = Fraction.of(1);
            }
        }
        Fraction.eliminate(a);
        BigInteger[][] answer = new BigInteger[size][];
        for (int k = 0; k < size; k++) {
            answer[k] = new BigInteger[] {a[k][size].top, a[k][size].bottom};
        }
        return answer;
    }

    private BigInteger[][] bestHeights() {
        List<long[]> ties = new ArrayList<>();
        for (Line n : given()) {
            ties.add(new long[] {n.step[0], n.step[1], n.place});
        }
        return leastSquares(levels.size(), ties);
    }

    long best(int k, int what) {
        if (noLevel(k) || out(what, 0, 1)) {
            return -1000000000000L;
        }
        return bestHeights()[k][what].longValueExact();
    }

    long rest(int n, int what) {
        if (noLine(n) || out(what, 0, 1)) {
            return -1000000000000L;
        }
        Line line = lines.get(n);
        if (line.step == null) {
            return -1000000000002L;
        }
        BigInteger[][] best = bestHeights();
        BigInteger[] u = best[line.step[0]];
        BigInteger[] l = best[line.step[1]];
        Fraction rest = Fraction.of(line.place).plus(new Fraction(u[0].negate(), u[1])).plus(new Fraction(l[0], l[1]));
        return (what == 0 ? rest.top : rest.bottom).longValueExact();
    }

    int settle() {
        act();
        BigInteger[][] best = bestHeights();
        int[] old = new int[levels.size()];
        for (int k = 0; k < old.length; k++) {
            old[k] = levels.get(k).height;
        }
        int changed = 0;
        for (int k = 0; k < old.length; k++) {
            Fraction sum = Fraction.of(old[partOf(k).first()]).plus(new Fraction(best[k][0], best[k][1]));
            int now = (int) Math.max(0, Math.min(1000000, sum.nearest()));
            levels.get(k).height = now;
            changed += now != old[k] ? 1 : 0;
        }
        return changed;
    }

    // ---- seeking

    int seek(int side, int spin, int what) {
        if (out(side, 0, 1) || out(spin, 0, 9) || out(what, 0, 2)) {
            return -1;
        }
        TreeSet<Integer> tried = new TreeSet<>();
        for (Level k : levels) {
            for (Line n : lines) {
                if (rule(k.side, k.spin, side, spin) && n.step == null) {
                    tried.add(k.height + n.place);
                    tried.add(k.height - n.place);
                }
            }
        }
        int best = -1;
        for (int h : tried) {
            if (!out(h, 0, 1000000) && (best < 0 || points(side, spin, h) > points(side, spin, best))) {
                best = h;
            }
        }
        if (best < 0) {
            return -4;
        }
        int chance = 0;
        for (int h = best + 37; h <= best + 3700; h += 37) {
            chance += points(side, spin, h) >= points(side, spin, best) ? 1 : 0;
        }
        return what == 0 ? best : what == 1 ? points(side, spin, best) : chance;
    }

    private int points(int side, int spin, int h) {
        int count = 0;
        for (Line n : lines) {
            boolean any = false;
            for (Level k : levels) {
                any |= rule(k.side, k.spin, side, spin) && Math.abs(Math.abs(k.height - h) - n.place) <= n.end;
            }
            count += any && n.step == null ? 1 : 0;
        }
        return count;
    }

    int score(int side, int spin, int height) {
        return out(side, 0, 1) || out(spin, 0, 9) || out(height, 0, 1000000) ? -1 : points(side, spin, height);
    }

    private List<int[]> foretoldSteps() {
        List<int[]> all = new ArrayList<>();
        for (int u = 0; u < levels.size(); u++) {
            for (int l = 0; l < levels.size(); l++) {
                boolean free = step(u, l) && levels.get(u).height > levels.get(l).height;
                for (Line n : lines) {
                    free &= !Arrays.equals(n.step, new int[] {u, l});
                }
                if (free) {
                    all.add(new int[] {levels.get(u).height - levels.get(l).height, u, l});
                }
            }
        }
        all.sort(Arrays::compare);
        return all;
    }

    int foretold() {
        return foretoldSteps().size();
    }

    int foretoldAt(int i, int what) {
        if (i < 0 || out(what, 0, 3)) {
            return -1;
        }
        List<int[]> all = foretoldSteps();
        if (i >= all.size()) {
            return -4;
        }
        int[] row = all.get(i);
        int fit = 0;
        for (Line n : lines) {
            fit += fitting(n).contains(8 * row[1] + row[2]) ? 1 : 0;
        }
        return what < 3 ? row[what] : fit;
    }

    // ---- shells

    int feed(long v) {
        if (tape.length() > 72) {
            return -3;
        }
        for (int i = 7; i >= 0; i--) {
            tape.append((char) (v >>> 8 * i & 255));
        }
        return tape.length();
    }

    int end(int n) {
        if (out(n, 0, tape.length())) {
            return -1;
        }
        int old = tape.length();
        tape.setLength(n);
        return old;
    }

    private static final Pattern TOKEN = Pattern.compile(" *([0-9]+|[spdf^]|\\z)", Pattern.DOTALL);

    int shells() {
        String text = tape.toString();
        tape = new StringBuilder();
        int[] met = read(text);
        fault = met[0];
        if (fault != 0) {
            return -10 - met[1];
        }
        countWays();
        return sideOfShells();
    }

    private int sideOfShells() {
        int sum = 0;
        for (int[] s : shells) {
            sum += s[1] * s[2];
        }
        return sum % 2;
    }

    /** A state for what may come: 0 a first NUMBER, 1 a LETTER, 2 ^ or NUMBER or end, 3 NUMBER, 4 NUMBER or end. */
    private int[] read(String text) {
        List<int[]> found = new ArrayList<>();
        Matcher m = TOKEN.matcher(text);
        int at = 0;
        int state = 0;
        int[] shell = null;
        int shellAt = 0;
        int total = 0;
        while (true) {
            m.region(at, text.length());
            if (!m.lookingAt()) {
                while (text.charAt(at) == ' ') {
                    at++;
                }
                return new int[] {1, at};
            }
            String token = m.group(1);
            int start = m.start(1);
            at = m.end();
            if (token.length() > 2) {
                return new int[] {1, start};
            }
            boolean number = !token.isEmpty() && Character.isDigit(token.charAt(0));
            int letter = token.isEmpty() ? -1 : "spdf".indexOf(token);
            if (state == 2 && !token.equals("^")) {
                total++;
                if (total > 12) {
                    return new int[] {5, shellAt};
                }
                found.add(shell);
                state = 4;
            }
            if (state == 4 && token.isEmpty()) {
                shells = found;
                return new int[] {0, 0};
            }
            if (state == 0 || state == 4) {
                if (!number) {
                    return new int[] {2, start};
                }
                if (found.size() == 4) {
                    return new int[] {5, start};
                }
                shell = new int[] {Integer.parseInt(token), 0, 1};
                shellAt = start;
                state = 1;
            } else if (state == 1) {
                if (letter < 0) {
                    return new int[] {2, start};
                }
                shell[1] = letter;
                if (out(shell[0], letter + 1, 9)) {
                    return new int[] {3, shellAt};
                }
                for (int[] s : found) {
                    if (s[0] == shell[0] && s[1] == letter) {
                        return new int[] {4, start};
                    }
                }
                shellAt = start;
                state = 2;
            } else if (state == 2) {
                state = 3;
            } else {
                if (!number) {
                    return new int[] {2, start};
                }
                shell[2] = Integer.parseInt(token);
                if (out(shell[2], 1, 4 * shell[1] + 2)) {
                    return new int[] {3, start};
                }
                total += shell[2];
                if (total > 12) {
                    return new int[] {5, start};
                }
                found.add(shell);
                state = 4;
            }
        }
    }

    int fault() {
        return fault;
    }

    /** All subsets of each shell's places, one by one; then shell with shell. */
    private void countWays() {
        Map<List<Integer>, Long> all = new HashMap<>();
        all.put(List.of(0, 0), 1L);
        for (int[] s : shells) {
            int places = 4 * s[1] + 2;
            Map<List<Integer>, Long> one = new HashMap<>();
            for (int mask = 0; mask < 1 << places; mask++) {
                if (Integer.bitCount(mask) == s[2]) {
                    int sumM = 0;
                    int sumH = 0;
                    for (int i = 0; i < places; i++) {
                        if ((mask >> i & 1) == 1) {
                            sumM += i / 2 - s[1];
                            sumH += i % 2 == 0 ? 1 : -1;
                        }
                    }
                    one.merge(List.of(sumM, sumH), 1L, Long::sum);
                }
            }
            Map<List<Integer>, Long> next = new HashMap<>();
            for (Map.Entry<List<Integer>, Long> a : all.entrySet()) {
                for (Map.Entry<List<Integer>, Long> b : one.entrySet()) {
                    next.merge(List.of(a.getKey().get(0) + b.getKey().get(0), a.getKey().get(1) + b.getKey().get(1)),
                        a.getValue() * b.getValue(), Long::sum);
                }
            }
            all = next;
        }
        ways = all;
    }

    private long ways(int m, int h) {
        return ways.getOrDefault(List.of(m, h), 0L);
    }

    long fillings(int m, int h) {
        return out(m, -40, 40) || out(h, -12, 12) ? -1 : shells.isEmpty() ? -2 : ways(m, h);
    }

    private long number(int l, int k) {
        return ways(l, k) - ways(l + 1, k) - ways(l, k + 2) + ways(l + 1, k + 2);
    }

    long terms(int l, int k) {
        return out(l, 0, 40) || out(k, 0, 12) ? -1 : shells.isEmpty() ? -2 : number(l, k);
    }

    private long ofSpin(int spin) {
        long sum = 0;
        for (int l = 0; l <= 40; l++) {
            for (int k = 0; k <= 12; k++) {
                for (int s = Math.abs(2 * l - k); s <= 2 * l + k; s += 2) {
                    sum += s == spin ? number(l, k) : 0;
                }
            }
        }
        return sum;
    }

    long spins(int spin) {
        return out(spin, 0, 99) ? -1 : shells.isEmpty() ? -2 : ofSpin(spin);
    }

    long term(int i, int what) {
        if (i < 0 || out(what, 0, 2)) {
            return -1;
        }
        if (shells.isEmpty()) {
            return -2;
        }
        List<long[]> all = new ArrayList<>();
        for (int l = 0; l <= 40; l++) {
            for (int k = 0; k <= 12; k++) {
                if (number(l, k) > 0) {
                    all.add(new long[] {l, k, number(l, k)});
                }
            }
        }
        all.sort(Comparator.comparing((long[] t) -> -t[1]).thenComparing(t -> -t[0]));
        return i < all.size() ? all.get(i)[what] : -4;
    }

    long missing(int what) {
        if (out(what, 0, 1)) {
            return -1;
        }
        if (shells.isEmpty()) {
            return -2;
        }
        long more = 0;
        long less = 0;
        for (int spin = 0; spin < 10; spin++) {
            long known = 0;
            for (Level k : levels) {
                known += k.side == sideOfShells() && k.spin == spin ? 1 : 0;
            }
            long due = ofSpin(spin);
            more += known > due ? known - due : 0;
            less += known < due ? due - known : 0;
        }
        return what == 0 ? more : less;
    }

    // ---- fields

    int factor(int k, int v) {
        if (noLevel(k) || out(v, -100, 100)) {
            return -1000;
        }
        int old = levels.get(k).factor;
        levels.get(k).factor = v;
        return old;
    }

    /** Keys shift and sort (0 straight, 1 round), so that the map has the pattern's order. */
    private List<int[]> components(int u, int l) {
        Level a = levels.get(u);
        Level b = levels.get(l);
        TreeMap<int[], Integer> all = new TreeMap<>(Arrays::compare);
        for (int up = -a.spin; up <= a.spin; up += 2) {
            for (int low = -b.spin; low <= b.spin; low += 2) {
                if (Math.abs(up - low) <= 2) {
                    int strength = a.spin <= b.spin ? strength(a.spin, b.spin, up, low) : strength(b.spin, a.spin, low, up);
                    if (strength != 0) {
                        all.merge(new int[] {a.factor * up - b.factor * low, up == low ? 0 : 1}, strength, Integer::sum);
                    }
                }
            }
        }
        List<int[]> rows = new ArrayList<>();
        all.forEach((key, strength) -> rows.add(new int[] {key[0], 1 - key[1], strength}));
        return rows;
    }

    private static int strength(int s, int other, int a, int b) {
        if (s == other) {
            return a == b ? a * a : b == a + 2 ? (s - a) * (s + a + 2) / 2 : (s + a) * (s - a + 2) / 2;
        }
        return a == b ? (s + 2) * (s + 2) - a * a
            : b == a + 2 ? (s + a + 2) * (s + a + 4) / 2 : (s - a + 2) * (s - a + 4) / 2;
    }

    int pattern(int u, int l, int what) {
        if (noLevel(u) || noLevel(l) || out(what, 0, 3)) {
            return -1;
        }
        if (!step(u, l)) {
            return -2;
        }
        int[] sums = new int[4];
        for (int[] c : components(u, l)) {
            sums[0]++;
            sums[1] += c[1];
            sums[2] += c[1] == 1 ? c[2] : 0;
            sums[3] += c[1] == 0 ? c[2] : 0;
        }
        return sums[what];
    }

    int component(int u, int l, int i, int what) {
        if (noLevel(u) || noLevel(l) || out(what, 0, 2) || i < 0) {
            return -1000000;
        }
        if (!step(u, l)) {
            return -1000002;
        }
        List<int[]> all = components(u, l);
        return i < all.size() ? all.get(i)[what] : -1000000;
    }

    private static int cellOf(Object sheet, int i) {
        return sheet instanceof byte[] ? ((byte[]) sheet)[i]
            : sheet instanceof short[] ? ((short[]) sheet)[i] : ((int[]) sheet)[i];
    }

    /** The machine's own faults, asked for by trying: this is a test, which may. */
    private static int faultOf(Object sheet, int lane, int from, int n) {
        try {
            for (int i = 0; i < Math.max(1, n); i++) {
                Object row = lane == 0 ? (Object) (byte[]) sheet : lane == 1 ? (Object) (short[]) sheet : (int[]) sheet;
                Objects.requireNonNull(row);
                if (n > 0) {
                    cellOf(row, from + i);
                }
            }
            return 0;
        } catch (NullPointerException e) {
            return 1;
        } catch (ArrayIndexOutOfBoundsException e) {
            return 2;
        } catch (ClassCastException e) {
            return 3;
        }
    }

    int match(int k, int lane, int f, int n, int e) {
        if (out(k, 0, 3) || out(lane, 0, 2) || out(n, 1, 20) || out(e, 0, 1000)) {
            return -1;
        }
        int met = faultOf(sheets[k], lane, f, n);
        if (met != 0) {
            return -10 - met;
        }
        int found = 0;
        for (int u = 0; u < levels.size(); u++) {
            for (int l = 0; l < levels.size(); l++) {
                if (step(u, l) && components(u, l).size() == n) {
                    boolean good = true;
                    for (int i = 0; i < n; i++) {
                        long gap = (long) components(u, l).get(i)[0] - cellOf(sheets[k], f + i);
                        good &= -e <= gap && gap <= e;
                    }
                    found += good ? 1 : 0;
                }
            }
        }
        return found;
    }

    // ---- plates

    int plate(int n, int v) {
        if (noLine(n) || out(v, 0, 3)) {
            return -1;
        }
        if (met(lines.get(n))) {
            return -2;
        }
        int old = lines.get(n).plate;
        lines.get(n).plate = v;
        return old;
    }

    int meet(int i, int j) {
        if (noLine(i) || noLine(j) || lines.get(i).plate == lines.get(j).plate) {
            return -1;
        }
        if (meetings.size() == 12) {
            return -3;
        }
        meetings.add(new Line[] {lines.get(i), lines.get(j)});
        return meetings.size() - 1;
    }

    private BigInteger[][] offsets() {
        List<long[]> ties = new ArrayList<>();
        for (Line[] m : meetings) {
            ties.add(new long[] {m[0].plate, m[1].plate, m[1].place - m[0].place});
        }
        return leastSquares(4, ties);
    }

    long offset(int plate, int what) {
        return out(plate, 0, 3) || out(what, 0, 1) ? -1000000000000L : offsets()[plate][what].longValueExact();
    }

    int shift() {
        BigInteger[][] offsets = offsets();
        int changed = 0;
        for (Line n : lines) {
            BigInteger[] by = offsets[n.plate];
            int now = (int) Math.max(1, Math.min(1000000, Fraction.of(n.place).plus(new Fraction(by[0], by[1])).nearest()));
            changed += now != n.place ? 1 : 0;
            n.place = now;
        }
        return changed;
    }

    // ---- versions

    int keep() {
        if (versions.size() == 4) {
            return -3;
        }
        versions.add(copy());
        return versions.size() - 1;
    }

    int compare(int v, int what) {
        if (out(v, 0, versions.size() - 1) || out(what, 0, 4)) {
            return -1;
        }
        Kept then = versions.get(v);
        Kept now = copy();
        int[] answers = new int[5];
        for (int k = 0; k < Math.min(then.heights.size(), now.heights.size()); k++) {
            int gap = Math.abs(then.heights.get(k) - now.heights.get(k));
            answers[0] += gap > 0 ? 1 : 0;
            answers[4] = Math.max(answers[4], gap);
        }
        for (int n = 0; n < Math.min(then.steps.size(), now.steps.size()); n++) {
            answers[1] += Arrays.equals(then.steps.get(n), now.steps.get(n)) ? 0 : 1;
        }
        answers[2] = Math.abs(then.heights.size() - now.heights.size());
        answers[3] = Math.abs(then.steps.size() - now.steps.size());
        return answers[what];
    }

    int back(int v) {
        if (out(v, 0, versions.size() - 1)) {
            return -1;
        }
        acts.clear();
        return restore(versions.get(v));
    }

    int undo() {
        if (acts.isEmpty()) {
            return -4;
        }
        restore(acts.removeLast());
        return acts.size();
    }

    // ---- sheets

    int sheet(int k, int lane, int n) {
        if (out(k, 0, 3) || out(lane, 0, 2) || n > 60) {
            return -1;
        }
        try {
            sheets[k] = lane == 0 ? new byte[n] : lane == 1 ? new short[n] : (Object) new int[n];
            return 1;
        } catch (NegativeArraySizeException e) {
            return -14;
        }
    }

    int lay(int k, int i, int v) {
        if (out(k, 0, 3)) {
            return -1;
        }
        Object s = sheets[k];
        int lane = s instanceof byte[] ? 0 : s instanceof short[] ? 1 : 2;
        int met = faultOf(s, lane, i, 1);
        if (met != 0) {
            return -10 - met;
        }
        if (lane == 0) {
            ((byte[]) s)[i] = (byte) v;
        } else if (lane == 1) {
            ((short[]) s)[i] = (short) v;
        } else {
            ((int[]) s)[i] = v;
        }
        return 1;
    }

    int scan(int k, int lane, int f, int n) {
        if (out(k, 0, 3) || out(lane, 0, 2) || out(n, 0, 16)) {
            return -1;
        }
        int before = lines.size();
        int met = faultOf(sheets[k], lane, 0, 0);
        int refused = met == 0 ? 0 : -10 - met;
        for (int t = 0; t < n && refused == 0; t++) {
            met = faultOf(sheets[k], lane, f + 3 * t, 3);
            if (met != 0) {
                refused = -10 - met;
            } else {
                int came = line(cellOf(sheets[k], f + 3 * t), cellOf(sheets[k], f + 3 * t + 1),
                    cellOf(sheets[k], f + 3 * t + 2));
                refused = came < 0 ? -20 + came : 0;
            }
        }
        while (refused != 0 && lines.size() > before) {
            lines.remove(lines.size() - 1);
        }
        return refused != 0 ? refused : lines.size();
    }

    int count(int what) {
        if (out(what, 0, 9)) {
            return -1;
        }
        TreeSet<Integer> parts = new TreeSet<>();
        for (int k = 0; k < levels.size(); k++) {
            parts.add(partOf(k).first());
        }
        int cells = sheets[0] == null ? -4 : java.lang.reflect.Array.getLength(sheets[0]);
        return new int[] {levels.size(), lines.size(), given().size(), parts.size(), cells, tape.length(),
            meetings.size(), versions.size(), acts.size(), shells.size()}[what];
    }
}
