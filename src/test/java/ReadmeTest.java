import java.io.File;
import java.lang.reflect.Method;
import java.lang.reflect.Modifier;
import java.nio.file.Files;
import java.nio.file.Path;
import java.util.Set;
import java.util.TreeSet;
import java.util.regex.Matcher;
import java.util.regex.Pattern;

/** README.md: each call that it shows answers what stands behind it; its tables name every call and every test. */
public final class ReadmeTest {
    private static final Checks CHECKS = new Checks("ReadmeTest");
    private static final Pattern CALL = Pattern.compile("x\\.(\\w+)\\(([^)]*)\\);\\s*// (-?\\d+).*");
    private static final Pattern TEXT = Pattern.compile("write\\(x, \"(.*)\"\\);");

    public static void main(String[] args) throws Exception {
        String readme = Files.readString(Path.of("README.md"));
        calls(readme);
        CHECKS.due("calls that the table names", rows(readme, "").containsAll(face()) ? 1 : 0, 1);
        Set<String> tests = rows(readme, "Test");
        Set<String> files = new TreeSet<>();
        for (File file : new File("src/test/java").listFiles()) {
            if (file.getName().endsWith("Test.java")) {
                files.add(file.getName().replace(".java", ""));
            }
        }
        CHECKS.due("tests " + tests + ", files " + files, tests.equals(files) ? 1 : 0, 1);
        CHECKS.finish();
    }

    private static void calls(String readme) throws Exception {
        CountGates x = null;
        int shown = 0;
        for (String line : readme.split("\n")) {
            Matcher call = CALL.matcher(line);
            Matcher text = TEXT.matcher(line);
            if (line.equals("CountGates x = new CountGates();")) {
                x = new CountGates();
            } else if (text.matches()) {
                CHECKS.due("the tape is empty ahead of " + line, x.count(6), 0);
                Checks.write(x, text.group(1));
            } else if (call.matches()) {
                shown++;
                CHECKS.due(line, answer(x, call.group(1), call.group(2)), Long.parseLong(call.group(3)));
            }
        }
        CHECKS.due("calls shown with their answers, " + shown, shown > 20 ? 1 : 0, 1);
    }

    private static long answer(CountGates x, String name, String numbers) throws Exception {
        String[] each = numbers.isEmpty() ? new String[0] : numbers.split(", ");
        Object[] given = new Object[each.length];
        for (int i = 0; i < each.length; i++) {
            given[i] = Integer.valueOf(each[i]);
        }
        for (Method m : CountGates.class.getDeclaredMethods()) {
            if (m.getName().equals(name) && m.getParameterCount() == given.length) {
                return ((Number) m.invoke(x, given)).longValue();
            }
        }
        throw new IllegalArgumentException("no such call: " + name);
    }

    /** The names in the first column of the tables that end so. */
    private static Set<String> rows(String readme, String ending) {
        Set<String> names = new TreeSet<>();
        Matcher row = Pattern.compile("(?m)^\\| ([\\w, ]+) \\|").matcher(readme);
        while (row.find()) {
            for (String name : row.group(1).split(", ")) {
                if (name.endsWith(ending)) {
                    names.add(name);
                }
            }
        }
        return names;
    }

    private static Set<String> face() {
        Set<String> names = new TreeSet<>();
        for (Method m : CountGates.class.getDeclaredMethods()) {
            if (Modifier.isPublic(m.getModifiers())) {
                names.add(m.getName());
            }
        }
        return names;
    }
}
