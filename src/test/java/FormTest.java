import java.io.File;
import java.io.PrintWriter;
import java.io.StringWriter;
import java.net.URISyntaxException;
import java.util.ArrayDeque;
import java.util.ArrayList;
import java.util.Arrays;
import java.util.Deque;
import java.util.HashMap;
import java.util.List;
import java.util.Map;
import java.util.Set;
import java.util.TreeMap;
import java.util.TreeSet;
import java.util.regex.Matcher;
import java.util.regex.Pattern;
import java.util.spi.ToolProvider;

/** What of LANGUAGE.md can be seen in the compiled class: how deep calls go, what of the library is called. */
public final class FormTest {
    private static final Check CHECK = new Check("FormTest");
    private static final int DEEPEST = 8;
    private static final int MOST_PARAMETERS = 7;
    private static final int MOST_FIELDS = 20;
    private static final int MOST_CLASSES = 12;
    private static final Set<String> LIBRARY = new TreeSet<>(Arrays.asList(
        "java/lang/Object.\"<init>\"", "java/lang/IllegalArgumentException.\"<init>\"",
        "java/lang/IllegalStateException.\"<init>\"", "java/lang/Math.max", "java/lang/Math.min", "java/lang/Math.abs",
        "java/lang/Integer.bitCount", "java/lang/System.arraycopy", "java/util/Arrays.fill"));
    private static final Pattern METHOD = Pattern.compile("^  [^ ].*?([\\w$]+)\\((.*)\\).*;$");
    private static final Pattern CALL = Pattern.compile("invoke(\\w+) .*?// (?:Interface)?Method ([^:]+):");
    private static final Pattern FIELD = Pattern.compile("^  (?!.*\\bstatic\\b)[^ ][^(]*;$");
    private static final Pattern CATCH = Pattern.compile("^ +\\d+ +\\d+ +\\d+ +(Class )?(\\S+)$");
    private static final Pattern CLASS = Pattern.compile("class (\\S+)(?: extends (\\S+))?");

    /** By class and method, joined by a dot: the calls in it, each with the way it is called ahead of it. */
    private final Map<String, List<String>> calls = new TreeMap<>();
    private final Map<String, String> under = new HashMap<>();
    private final Map<String, Integer> depths = new HashMap<>();

    public static void main(String[] args) throws URISyntaxException {
        // a machine with javac and java alone may lack it
        if (ToolProvider.findFirst("javap").isEmpty()) {
            System.out.println("FormTest: no javap, nothing is looked at");
            return;
        }
        FormTest test = new FormTest();
        File place = new File(PapersAreOnCats.class.getProtectionDomain().getCodeSource().getLocation().toURI());
        int classes = 0;
        for (String name : place.list()) {
            if (name.equals("PapersAreOnCats.class") || name.startsWith("PapersAreOnCats$")) {
                test.read(name.replace(".class", ""), new File(place, name).getPath());
                classes++;
            }
        }
        CHECK.due("classes, some twelve: " + classes, classes <= MOST_CLASSES ? 1 : 0, 1);
        CHECK.due("the class is there", test.calls.containsKey("PapersAreOnCats.frontier") ? 1 : 0, 1);
        test.look();
        CHECK.end();
    }

    private void read(String name, String file) {
        StringWriter out = new StringWriter();
        ToolProvider.findFirst("javap").orElseThrow().run(new PrintWriter(out), new PrintWriter(out), "-c", "-p", file);
        String method = "";
        int fields = 0;
        for (String line : out.toString().split("\n")) {
            Matcher m = METHOD.matcher(line);
            Matcher call = CALL.matcher(line);
            Matcher caught = CATCH.matcher(line);
            Matcher head = CLASS.matcher(line);
            if (!line.startsWith(" ") && head.find()) {
                under.put(name, String.valueOf(head.group(2)));
            } else if (m.matches()) {
                boolean made = m.group(1).equals(name.substring(name.lastIndexOf('$') + 1)) || m.group(1).equals(name);
                method = name + "." + (made ? "\"<init>\"" : m.group(1));
                calls.put(method, new ArrayList<>());
                int parameters = m.group(2).isEmpty() ? 0 : m.group(2).split(",").length;
                CHECK.due("parameters of " + method, parameters <= MOST_PARAMETERS ? 1 : 0, 1);
            } else if (FIELD.matcher(line).matches()) {
                fields++;
            } else if (call.find()) {
                String called = call.group(2).indexOf('.') < 0 ? name + "." + call.group(2) : call.group(2);
                calls.get(method).add(call.group(1) + " " + called);
            } else if (caught.matches()) {
                boolean own = caught.group(2).equals("java/lang/IllegalStateException");
                CHECK.due(method + " catches " + caught.group(2), own ? 1 : 0, 1);
            }
            CHECK.due("no invokedynamic: " + line, line.contains("invokedynamic") ? 1 : 0, 0);
        }
        CHECK.due("fields of " + name + ": " + fields, fields <= MOST_FIELDS ? 1 : 0, 1);
    }

    private void look() {
        for (String method : calls.keySet()) {
            for (String call : calls.get(method)) {
                String called = call.substring(call.indexOf(' ') + 1);
                if (!called.startsWith("PapersAreOnCats")) {
                    CHECK.due(method + " calls " + called, LIBRARY.contains(called) ? 1 : 0, 1);
                }
            }
            int depth = depth(method, new ArrayDeque<>());
            CHECK.due("calls from " + method + " go " + depth + " deep", depth <= DEEPEST ? 1 : 0, 1);
        }
    }

    /** How many calls stand open at once in it, itself and the library's too; recursion is none of what is used. */
    private int depth(String method, Deque<String> open) {
        if (depths.containsKey(method)) {
            return depths.get(method);
        }
        CHECK.due("recursion by " + method, open.contains(method) ? 1 : 0, 0);
        if (open.contains(method)) {
            return 0;
        }
        open.push(method);
        int deepest = 0;
        for (String call : calls.get(method)) {
            for (String target : targets(call)) {
                deepest = Math.max(deepest, calls.containsKey(target) ? depth(target, open) : 1);
            }
        }
        open.pop();
        depths.put(method, deepest + 1);
        return deepest + 1;
    }

    /** A virtual call may go to the method of any class under the one that is named. */
    private Set<String> targets(String call) {
        String called = call.substring(call.indexOf(' ') + 1);
        int dot = called.lastIndexOf('.');
        String owner = called.substring(0, dot);
        String name = called.substring(dot + 1);
        Set<String> targets = new TreeSet<>();
        for (String each : under.keySet()) {
            boolean could = each.equals(owner) || call.startsWith("virtual") && isUnder(each, owner);
            if (could) {
                targets.add(inherited(each, name));
            }
        }
        if (targets.isEmpty()) {
            targets.add(called);
        }
        return targets;
    }

    private boolean isUnder(String each, String owner) {
        for (String up = under.get(each); up != null; up = under.get(up)) {
            if (up.equals(owner)) {
                return true;
            }
        }
        return false;
    }

    private String inherited(String owner, String name) {
        for (String up = owner; up != null; up = under.get(up)) {
            if (calls.containsKey(up + "." + name)) {
                return up + "." + name;
            }
        }
        return owner + "." + name;
    }
}
