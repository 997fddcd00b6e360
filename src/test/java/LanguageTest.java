import java.lang.reflect.Constructor;
import java.lang.reflect.Field;
import java.lang.reflect.Method;
import java.lang.reflect.Modifier;
import java.nio.charset.StandardCharsets;
import java.nio.file.Files;
import java.nio.file.Path;
import java.util.List;
import java.util.TreeSet;
import java.util.regex.Matcher;
import java.util.regex.Pattern;

/** The public face, and the rules of LANGUAGE.md that a test can look at. Runs from the project's folder. */
public final class LanguageTest {
    private static final Due DUE = new Due("LanguageTest");

    private static final String FACE = "int level(int,int,int);int height(int,int);int told(int,int);"
        + "int line(int,int,int);int drop();int about(int,int);int allowed(int,int);int fits(int);int fit(int,int);"
        + "int give(int,int,int);int take(int);int giveAll();int closes();int barred();int apart(int,int,boolean);"
        + "long best(int,int);long rest(int,int);int settle();int seek(int,int,int);int score(int,int,int);"
        + "int foretold();int foretoldAt(int,int);int feed(long);int end(int);int shells();int fault();"
        + "long fillings(int,int);long terms(int,int);long spins(int);long term(int,int);long missing(int);"
        + "int factor(int,int);int pattern(int,int,int);int component(int,int,int,int);int match(int,int,int,int,int);"
        + "int plate(int,int);int meet(int,int);long offset(int,int);int shift();int keep();int compare(int,int);"
        + "int back(int);int undo();int sheet(int,int,int);int lay(int,int,int);int scan(int,int,int,int);int count(int)";

    public static void main(String[] args) throws Exception {
        face();
        members();
        source();
        lengths();
        DUE.end();
    }

    private static String signature(Method m) {
        StringBuilder text = new StringBuilder();
        text.append(m.getReturnType().getName()).append(' ').append(m.getName()).append('(');
        for (Class<?> p : m.getParameterTypes()) {
            text.append(text.charAt(text.length() - 1) == '(' ? "" : ",").append(p.getName());
        }
        return text.append(')').toString();
    }

    private static void face() throws Exception {
        DUE.holds("public and final", Modifier.isPublic(AtomLadders.class.getModifiers())
            && Modifier.isFinal(AtomLadders.class.getModifiers()));
        TreeSet<String> found = new TreeSet<>();
        for (Method m : AtomLadders.class.getDeclaredMethods()) {
            if (Modifier.isPublic(m.getModifiers())) {
                found.add(signature(m));
                DUE.holds("no static call " + m, !Modifier.isStatic(m.getModifiers()));
            }
        }
        DUE.holds("the calls are " + found, found.equals(new TreeSet<>(List.of(FACE.split(";")))));
        Constructor<?>[] made = AtomLadders.class.getDeclaredConstructors();
        DUE.holds("one public constructor", made.length == 1 && Modifier.isPublic(made[0].getModifiers())
            && made[0].getParameterCount() == 0);
        String[] names = {"BAD", "STATE", "FULL", "NONE"};
        for (int i = 0; i < names.length; i++) {
            Field f = AtomLadders.class.getDeclaredField(names[i]);
            DUE.holds(names[i], Modifier.isPublic(f.getModifiers()) && Modifier.isStatic(f.getModifiers())
                && Modifier.isFinal(f.getModifiers()));
            DUE.is(names[i], f.getInt(null), -1 - i);
        }
    }

    private static void members() {
        TreeSet<String> calls = new TreeSet<>();
        for (Method m : AtomLadders.class.getDeclaredMethods()) {
            if (Modifier.isPublic(m.getModifiers())) {
                calls.add(m.getName());
            } else {
                DUE.holds("private " + m, Modifier.isPrivate(m.getModifiers()));
            }
        }
        int open = 0;
        for (Field f : AtomLadders.class.getDeclaredFields()) {
            open += Modifier.isPrivate(f.getModifiers()) ? 0 : 1;
        }
        DUE.is("no fields but the four constants are open", open, 4);
        own(AtomLadders.class, calls);
        Class<?>[] inside = AtomLadders.class.getDeclaredClasses();
        DUE.holds("some twelve classes", inside.length <= 12);
        for (Class<?> c : inside) {
            DUE.holds("static " + c, Modifier.isStatic(c.getModifiers()) && !Modifier.isPublic(c.getModifiers()));
            for (Method m : c.getDeclaredMethods()) {
                DUE.holds("no call's name " + m, !calls.contains(m.getName()));
            }
            own(c, calls);
        }
    }

    private static void own(Class<?> c, TreeSet<String> calls) {
        int fields = 0;
        for (Field f : c.getDeclaredFields()) {
            boolean isStatic = Modifier.isStatic(f.getModifiers());
            DUE.holds("static ones are final " + f, !isStatic || Modifier.isFinal(f.getModifiers()));
            fields += isStatic ? 0 : 1;
        }
        DUE.holds("some twenty fields " + c, fields <= 20);
        for (Method m : c.getDeclaredMethods()) {
            DUE.holds("seven parameters " + m, m.getParameterCount() <= 7);
            DUE.holds("no private one with a call's name " + m,
                !Modifier.isPrivate(m.getModifiers()) || !calls.contains(m.getName()));
        }
    }

    private static void source() throws Exception {
        String text = Files.readString(Path.of("src/main/java/AtomLadders.java"), StandardCharsets.US_ASCII);
        String code = text.replaceAll("(?s)/\\*.*?\\*/", "").replaceAll("//[^\n]*", "")
            .replaceAll("\"[^\"\n]*\"", "\"\"").replaceAll("'[^'\n]*'", "' '");
        Matcher banned = Pattern.compile("\\b(throw|throws|try|catch|finally|synchronized|assert|package|volatile|native"
            + "|System\\.(?!arraycopy)\\w+|Thread|Random|Exact|record|sealed|var)\\b|->|::|Exact\\(|@").matcher(code);
        DUE.holds("what is barred: " + (banned.find() ? banned.group() : ""), !banned.reset().find());
        Matcher imports = Pattern.compile("import ([^;]+);").matcher(code);
        while (imports.find()) {
            DUE.holds("import " + imports.group(1), imports.group(1).equals("java.util.Arrays"));
        }
        // Rows are made with the object: a new one stands in a field or in a constructor's loop alone.
        Matcher made = Pattern.compile("[^\n]*\\bnew \\w+[^\n]*").matcher(code);
        while (made.find()) {
            String line = made.group().trim();
            boolean good = line.startsWith("private final") || line.startsWith("final")
                || line.matches("(versions\\[v\\]|sheets\\[k\\]|ahead\\[i\\]) = new \\w+\\(\\);");
            DUE.holds("made with the object: " + line, good);
        }
    }

    /** From a line that opens a method or constructor to the closing one of the same depth. */
    private static void lengths() throws Exception {
        List<String> rows = Files.readAllLines(Path.of("src/main/java/AtomLadders.java"), StandardCharsets.US_ASCII);
        int methods = 0;
        for (int from = 0; from < rows.size(); from++) {
            String row = rows.get(from);
            if (row.matches("( {4}| {8})[A-Za-z][^=]*\\) \\{") && !row.matches(" *(if|for|while|switch|else)\\b.*")) {
                String close = row.substring(0, row.length() - row.stripLeading().length()) + "}";
                int to = from;
                while (to < rows.size() && !rows.get(to).equals(close)) {
                    to++;
                }
                DUE.holds("some sixty lines: " + row.trim(), to - from < 60);
                methods++;
            }
        }
        DUE.holds("methods were found", methods > 100);
    }
}
