import java.io.File;
import java.io.IOException;
import java.lang.reflect.InvocationTargetException;
import java.lang.reflect.Method;
import java.nio.file.Files;
import java.util.Set;
import java.util.TreeSet;
import java.util.regex.Matcher;
import java.util.regex.Pattern;

/** The calls that README.md shows answer what it says, and the tests that it tells are those that there are. */
public final class ReadmeTest {
    private static final Check CHECK = new Check("ReadmeTest");
    private static final String NEW_OBJECT = "PapersAreOnCats x = new PapersAreOnCats();";
    private static final int LEAST_CALLS = 20;
    private static final Pattern CALL = Pattern.compile("x\\.(\\w+)\\((.*)\\);\\s+// (throws )?(-?\\w+)(:.*)?");
    private static final Pattern TOLD_TEST = Pattern.compile("^\\| `(\\w+Test)` \\|.*");
    private static final Pattern CALLS_ROW = Pattern.compile("^\\| (`[a-z].*) \\| .* \\|$");
    private static final Pattern NAME = Pattern.compile("`(\\w+)`");

    private static PapersAreOnCats x;
    private static int calls;

    public static void main(String[] args) throws IOException, ReflectiveOperationException {
        Set<String> told = new TreeSet<>();
        Set<String> shown = new TreeSet<>();
        boolean java = false;
        for (String line : Files.readAllLines(new File(Check.project(), "README.md").toPath())) {
            if (line.startsWith("```")) {
                java = line.equals("```java");
            } else if (java) {
                look(line);
            } else {
                Matcher test = TOLD_TEST.matcher(line);
                Matcher row = CALLS_ROW.matcher(line);
                if (test.matches()) {
                    CHECK.due(test.group(1) + " is told once", told.add(test.group(1)) ? 1 : 0, 1);
                } else if (row.matches()) {
                    addNames(row.group(1), shown);
                }
            }
        }
        CHECK.due("calls shown, a run at least: " + calls, calls >= LEAST_CALLS ? 1 : 0, 1);
        CHECK.due("tests told " + told + ", there are " + tests(), told.equals(tests()) ? 1 : 0, 1);
        CHECK.due("calls told " + shown + ", there are " + face(), shown.equals(face()) ? 1 : 0, 1);
        CHECK.end();
    }

    private static void look(String line) throws ReflectiveOperationException {
        if (line.equals(NEW_OBJECT)) {
            x = new PapersAreOnCats();
            return;
        }
        Matcher call = CALL.matcher(line);
        boolean known = x != null && call.matches();
        CHECK.due("a call and its answer: " + line, known ? 1 : 0, 1);
        if (known) {
            calls++;
            String answer = answer(call.group(1), call.group(2));
            String due = (call.group(3) == null ? "" : call.group(3)) + call.group(4);
            CHECK.due(line + " answered " + answer + "; that is as told", answer.equals(due) ? 1 : 0, 1);
        }
    }

    private static String answer(String name, String told) throws ReflectiveOperationException {
        String[] numbers = told.isEmpty() ? new String[0] : told.split(", ");
        for (Method m : PapersAreOnCats.class.getMethods()) {
            if (m.getDeclaringClass() == PapersAreOnCats.class && m.getName().equals(name)
                    && m.getParameterCount() == numbers.length) {
                Object[] values = new Object[numbers.length];
                for (int i = 0; i < values.length; i++) {
                    values[i] = numbers[i].startsWith("'") ? (int) numbers[i].charAt(1) : Integer.parseInt(numbers[i]);
                }
                try {
                    return String.valueOf(m.invoke(x, values));
                } catch (InvocationTargetException e) {
                    return "throws " + e.getCause().getClass().getSimpleName();
                }
            }
        }
        return "no such call";
    }

    private static void addNames(String row, Set<String> names) {
        Matcher name = NAME.matcher(row);
        while (name.find()) {
            CHECK.due(name.group(1) + " is told once", names.add(name.group(1)) ? 1 : 0, 1);
        }
    }

    private static Set<String> tests() {
        Set<String> tests = new TreeSet<>();
        for (String file : new File(Check.project(), "src/test/java").list()) {
            if (file.endsWith("Test.java")) {
                tests.add(file.replace(".java", ""));
            }
        }
        return tests;
    }

    private static Set<String> face() {
        Set<String> face = new TreeSet<>();
        for (Method m : PapersAreOnCats.class.getMethods()) {
            if (m.getDeclaringClass() == PapersAreOnCats.class) {
                face.add(m.getName());
            }
        }
        return face;
    }
}
