import java.lang.reflect.Method;
import java.lang.reflect.Modifier;
import java.nio.file.Files;
import java.nio.file.Path;
import java.util.TreeSet;
import java.util.regex.Matcher;
import java.util.regex.Pattern;

/** What README.md shows is so: its calls, in their order, have the answers behind them. Runs from the project's folder. */
public final class ReadmeTest {
    private static final Due DUE = new Due("ReadmeTest");
    private static final Pattern CALL = Pattern.compile("(?m)^x\\.(\\w+)\\(([^)]*)\\); +// (-?\\d+)(?::.*)?$");

    public static void main(String[] args) throws Exception {
        String text = Files.readString(Path.of("README.md"));
        AtomLadders x = new AtomLadders();
        TreeSet<String> shown = new TreeSet<>();
        Matcher row = CALL.matcher(text);
        int rows = 0;
        while (row.find()) {
            Method call = callNamed(row.group(1));
            if (call == null) {
                DUE.holds("a call of the face: " + row.group(), false);
                continue;
            }
            Number got = (Number) call.invoke(x, numbers(row.group(2), call.getParameterTypes()));
            DUE.is(row.group(), got.longValue(), Long.parseLong(row.group(3)));
            shown.add(row.group(1));
            rows++;
        }
        DUE.is("rows of the form that is read here", rows, text.split("(?m)^x\\.", -1).length - 1);
        DUE.holds("the object's 512 calls", rows <= 512);
        for (Method m : AtomLadders.class.getDeclaredMethods()) {
            DUE.holds("README.md shows " + m.getName(), !Modifier.isPublic(m.getModifiers()) || shown.contains(m.getName()));
        }
        DUE.end();
    }

    private static Method callNamed(String name) {
        for (Method m : AtomLadders.class.getDeclaredMethods()) {
            if (m.getName().equals(name) && Modifier.isPublic(m.getModifiers())) {
                return m;
            }
        }
        return null;
    }

    private static Object[] numbers(String list, Class<?>[] types) {
        Object[] all = new Object[types.length];
        String[] parts = list.isEmpty() ? new String[0] : list.split(", *");
        for (int i = 0; i < all.length; i++) {
            String part = parts[i].replace("L", "");
            all[i] = types[i] == boolean.class ? Boolean.valueOf(part)
                : types[i] == long.class ? (Object) Long.decode(part) : (Object) Integer.decode(part);
        }
        return all;
    }
}
