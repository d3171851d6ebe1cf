import java.lang.reflect.Constructor;
import java.lang.reflect.Field;
import java.lang.reflect.Method;
import java.lang.reflect.Modifier;
import java.nio.file.Files;
import java.nio.file.Path;
import java.util.ArrayList;
import java.util.List;
import java.util.Set;
import java.util.TreeSet;
import java.util.regex.Matcher;
import java.util.regex.Pattern;

/** The rules of LANGUAGE.md that can be looked up in the source and in the class. */
public final class LanguageTest {
    private static final Checks CHECKS = new Checks("LanguageTest");
    private static final String FACE = "again(int,int,int)int ask(int,int)int asks(int,int,int,int)int at(int,int)int back(int)int "
            + "cheap(int,int,int)int compare(int,int,int,int)int count(int)int cut(int,int,int)int days(int,int)int "
            + "drawn(int,int)int end(int)int fault()int feed(int,int,int,int,int)int few(int,int)long fixed(int,int,int)int "
            + "force(int)int forget()int gate(int,int,int,int)int go(int,int)int goer(int,int,int)int image(int)int kinds()int "
            + "latch(int)int law()int likely(int,int,int,int)long manys(int,int)int meet(int,int,int)int of(int,int)int "
            + "orders()int pass()int reach(int)int row()int rust()int seen(int,int,int)int set(int,int)int status()int "
            + "stopped()int terms(int,int)int undo()int way(int,int,int,int)int ways(int,int,int,int)long";

    public static void main(String[] args) throws Exception {
        face();
        names();
        limits();
        source(Files.readString(Path.of(args[0])));
        CHECKS.finish();
    }

    private static void due(String what, long got, long want) {
        CHECKS.due(what, got, want);
    }

    private static void face() {
        Set<String> found = new TreeSet<>();
        for (Method m : CountGates.class.getDeclaredMethods()) {
            if (Modifier.isPublic(m.getModifiers())) {
                List<String> types = new ArrayList<>();
                for (Class<?> c : m.getParameterTypes()) {
                    types.add(c.getName());
                }
                found.add(m.getName() + "(" + String.join(",", types) + ")" + m.getReturnType().getName());
            } else {
                due(m.getName() + " is private", Modifier.isPrivate(m.getModifiers()) ? 1 : 0, 1);
            }
        }
        Set<String> missing = new TreeSet<>(List.of(FACE.split(" ")));
        Set<String> more = new TreeSet<>(found);
        more.removeAll(missing);
        missing.removeAll(found);
        due("missing " + missing, missing.size(), 0);
        due("more " + more, more.size(), 0);
        for (Field f : CountGates.class.getDeclaredFields()) {
            due(f.getName() + " is private", f.getName().equals("NONE") || Modifier.isPrivate(f.getModifiers()) ? 1 : 0, 1);
        }
        due("the class is public and final", CountGates.class.getModifiers() & (Modifier.PUBLIC | Modifier.FINAL),
                Modifier.PUBLIC | Modifier.FINAL);
        due("constructors", CountGates.class.getDeclaredConstructors().length, 1);
    }

    private static List<Class<?>> classes() {
        List<Class<?>> all = new ArrayList<>(List.of(CountGates.class.getDeclaredClasses()));
        all.add(CountGates.class);
        return all;
    }

    private static void names() {
        Set<String> open = new TreeSet<>();
        for (String m : FACE.split(" ")) {
            open.add(m.substring(0, m.indexOf('(')));
        }
        for (Class<?> c : classes()) {
            for (Method m : c.getDeclaredMethods()) {
                boolean public1 = c == CountGates.class && Modifier.isPublic(m.getModifiers());
                due(c.getName() + "." + m.getName() + " bears a public name", !public1 && open.contains(m.getName()) ? 1 : 0, 0);
            }
        }
    }

    private static void limits() {
        due("classes", classes().size() > 12 ? classes().size() : 0, 0);
        for (Class<?> c : classes()) {
            int fields = 0;
            for (Field f : c.getDeclaredFields()) {
                if (Modifier.isStatic(f.getModifiers())) {
                    due(f.getName() + " is final", Modifier.isFinal(f.getModifiers()) ? 1 : 0, 1);
                } else {
                    fields++;
                }
            }
            due(c.getName() + " has too many fields", fields > 20 ? fields : 0, 0);
            due(c.getName() + " is static", c == CountGates.class || Modifier.isStatic(c.getModifiers()) ? 1 : 0, 1);
            for (Method m : c.getDeclaredMethods()) {
                due(m.getName() + " takes too much", m.getParameterCount() > 7 ? 1 : 0, 0);
            }
            for (Constructor<?> k : c.getDeclaredConstructors()) {
                due(c.getName() + " takes too much", k.getParameterCount() > 7 ? 1 : 0, 0);
            }
        }
    }

    private static void source(String whole) {
        String code = whole.replaceAll("(?s)/\\*.*?\\*/", "").replaceAll("//.*", "");
        String[] banned = {"\\bthrow\\b", "\\btry\\b", "\\bcatch\\b", "\\bassert\\b", "\\bsynchronized\\b", "->", "::", "Exact\\b",
            "\\bpackage\\b", "\\bMath\\.random", "\\bSystem\\.(?!arraycopy)", "\\bdouble\\b", "\\bfloat\\b", "\\bObject\\b",
            "\\bInteger\\.(?!bitCount)", "\"\\s*\\+", "\\+\\s*\"", "\\bprotected\\b", "\\bstatic\\s*\\{", "\\bdo\\b"};
        for (String b : banned) {
            Matcher m = Pattern.compile(b).matcher(code);
            due("source has " + b, m.find() ? 1 : 0, 0);
        }
        Matcher imports = Pattern.compile("import ([^;]*);").matcher(code);
        while (imports.find()) {
            due("import " + imports.group(1), imports.group(1).equals("java.util.Arrays") ? 1 : 0, 1);
        }
        for (int i = 0; i < whole.length(); i++) {
            if (whole.charAt(i) > 126 || whole.charAt(i) < 32 && whole.charAt(i) != '\n') {
                due("sign at " + i, whole.charAt(i), ' ');
            }
        }
        methodLengths(whole.split("\n"));
    }

    /** A method begins with a line that ends in "{" at its class's depth and ends with the brace below it. */
    private static void methodLengths(String[] lines) {
        for (int i = 0; i < lines.length; i++) {
            Matcher m = Pattern.compile("^( {4}| {8})(?! )(?!.*\\bclass\\b).*\\) \\{$").matcher(lines[i]);
            if (!m.find()) {
                continue;
            }
            int j = i;
            while (j < lines.length && !lines[j].equals(m.group(1) + "}")) {
                j++;
            }
            due("long method at line " + (i + 1), j - i > 60 ? j - i : 0, 0);
        }
    }
}
