import java.io.File;
import java.io.IOException;
import java.nio.file.Files;
import java.util.List;
import java.util.regex.Matcher;
import java.util.regex.Pattern;

/** What of LANGUAGE.md can be seen in the source of the class; each check names the rule. */
public final class SourceTest {
    private static final Check CHECK = new Check("SourceTest");
    private static final int LONGEST_METHOD = 60;
    private static final int LAST_SIGN = 127;
    private static final int SIGNS_OF_SPACE = 32;
    private static final Pattern NOT_CODE = Pattern.compile("//.*|^\\s*/?\\*.*|\"[^\"]*\"");
    private static final String[] RULED_OUT = {
        "\\b(finally|synchronized|assert|protected|package|volatile|transient|native|yield)\\b", "->", "::", "@",
        "\\b(Object|Throwable|Exception|Error|NullPointerException|ClassCastException)\\b",
        "\\b(ArrayIndexOutOfBoundsException|NegativeArraySizeException|ArrayStoreException)\\b",
        "\\w+Exact\\b", "\\.(getMessage|equals|hashCode|toString|printStackTrace|getClass)\\(",
        "\\b(HashMap|HashSet|Random|Thread|System\\.(?!arraycopy))\\b", "\\bstatic\\s*\\{",
        "catch \\((?!IllegalStateException )"};
    private static final Pattern METHOD = Pattern.compile("^( +)[\\w\\[\\] ]+\\(.*");
    private static final Pattern STATIC_FIELD = Pattern.compile("^ +(private )?static (?!final ).*[=;].*");

    public static void main(String[] args) throws IOException {
        File file = new File(Check.project(), "src/main/java/PapersAreOnCats.java");
        List<String> lines = Files.readAllLines(file.toPath());
        for (int i = 0; i < lines.size(); i++) {
            String where = "line " + (i + 1) + ": " + lines.get(i);
            signs(where, lines.get(i));
            String code = NOT_CODE.matcher(lines.get(i)).replaceAll("");
            for (String word : RULED_OUT) {
                CHECK.due(where + " has " + word, Pattern.compile(word).matcher(code).find() ? 1 : 0, 0);
            }
            CHECK.due("rule 5, static fields are final, " + where, STATIC_FIELD.matcher(code).matches() ? 1 : 0, 0);
            CHECK.due("one import, " + where,
                code.startsWith("import ") && !code.equals("import java.util.Arrays;") ? 1 : 0, 0);
        }
        CHECK.due("methods looked at, all of the face at least", methods(lines) >= 45 ? 1 : 0, 1);
        CHECK.end();
    }

    /** Rule 3: no sign but 1 to 127 in a constant; here in the whole file. */
    private static void signs(String where, String line) {
        for (int i = 0; i < line.length(); i++) {
            boolean plain = line.charAt(i) >= SIGNS_OF_SPACE && line.charAt(i) < LAST_SIGN;
            CHECK.due("a sign of another kind, " + where, plain ? 1 : 0, 1);
        }
    }

    private static int methods(List<String> lines) {
        int methods = 0;
        for (int start = 0; start < lines.size(); start++) {
            Matcher head = METHOD.matcher(lines.get(start));
            if (!head.matches() || !lines.get(start).endsWith("{") || isStatement(lines.get(start))) {
                continue;
            }
            methods++;
            int end = lines.subList(start, lines.size()).indexOf(head.group(1) + "}") + start;
            CHECK.due("an end is found, " + lines.get(start), end > start ? 1 : 0, 1);
            CHECK.due("rule 11, short, " + lines.get(start), end - start < LONGEST_METHOD ? 1 : 0, 1);
            boolean constructor = lines.get(start).matches(" +(public )?[A-Z]\\w*\\(.*");
            body(lines.subList(start + 1, Math.max(end, start + 1)), constructor);
        }
        return methods;
    }

    /** Rules 6 and 12: constructors throw nothing; calls make nothing but what they throw, which is caught elsewhere. */
    private static void body(List<String> body, boolean constructor) {
        boolean throwing = false;
        boolean catching = false;
        for (String line : body) {
            boolean makes = line.matches(".*\\bnew\\b.*") && !NOT_CODE.matcher(line).replaceAll("").isEmpty();
            boolean thrown = line.matches(" +throw new Illegal(State|Argument)Exception\\(\"[a-z ]+\"\\);");
            CHECK.due("throws what rule 6 lists: " + line, line.contains("throw ") && !thrown ? 1 : 0, 0);
            CHECK.due("a constructor throws: " + line, constructor && thrown ? 1 : 0, 0);
            CHECK.due("a call makes an object: " + line, makes && !constructor && !thrown ? 1 : 0, 0);
            throwing |= thrown;
            catching |= line.contains("catch (");
        }
        CHECK.due("one method throws and catches", throwing && catching ? 1 : 0, 0);
    }

    private static boolean isStatement(String line) {
        return line.matches(" *(\\} )?(if|for|while|switch|do|else|try|catch|return)\\b.*");
    }
}
