import java.lang.reflect.InvocationTargetException;
import java.lang.reflect.Method;
import java.util.Arrays;
import java.util.HashMap;
import java.util.Map;
import java.util.Random;

/** Runs of drawn calls, the same ones always, on the class and on the model; every answer is compared. */
public final class ModelTest {
    private static final Check CHECK = new Check("ModelTest");
    private static final int MOST_CALLS = 512;

    /** What each call takes: d shelf, c cat, m man, M man or 9, p place, a digit's range 0 to it, n hours ahead,
     * h hours at once, v fish, f fish laid, t odds, z any number, k row's size, i row's place. */
    private static final String[] CALLS = {
        "frontier d", "cat c7", "man m1", "place p2", "comes dp", "waits 1", "writes cM", "lays p1f", "carries cp",
        "hours h", "catThen cn1", "then n1", "crosses c", "crossings cn", "passes m", "first ", "write m1", "good c",
        "putFish cpv1", "together n2", "all ", "deserted n", "meet cc", "shave n", "bribe cpn", "busiest n1",
        "nearest 1", "whatIs dc2", "two h", "dogs c17t1", "mean 1", "forged dc", "judge d", "nights tz1", "image ",
        "restore ", "count 6", "keep d179", "row d2k", "put diz", "element di", "copy didii", "cost d", "toss d"};
    private static final int[] ODD = {-1, 0, 1, 2, 3, 6, 7, 8, 9, 10, 15, 16, 20, 21, 24, 25, 60, 61, 99, 100, 101,
        127, 128, Integer.MAX_VALUE, Integer.MIN_VALUE};

    private final Random random;
    private final int run;
    private final Map<String, Method> real = new HashMap<>();
    private final Map<String, Method> model = new HashMap<>();
    private final PapersAreOnCats x = new PapersAreOnCats();
    private final Model m = new Model();
    private int calls;

    private ModelTest(int run) {
        this.run = run;
        random = new Random(run);
        for (Method method : PapersAreOnCats.class.getDeclaredMethods()) {
            if (java.lang.reflect.Modifier.isPublic(method.getModifiers())) {
                real.put(method.getName(), method);
            }
        }
        for (Method method : Model.class.getDeclaredMethods()) {
            if (real.containsKey(method.getName())) {
                model.put(method.getName(), method);
            }
        }
    }

    public static void main(String[] args) {
        int runs = args.length > 0 ? Integer.parseInt(args[0]) : 150;
        for (int run = 0; run < runs; run++) {
            new ModelTest(run).go();
        }
        for (String land : EdgesTest.LANDS) {
            new ModelTest(runs).lookAround(land);
        }
        for (String land : AheadEdgesTest.LANDS) {
            new ModelTest(runs).lookAround(land);
        }
        CHECK.end();
    }

    private void go() {
        tellText();
        while (calls < MOST_CALLS) {
            switch (random.nextInt(20)) {
                case 0: tellTrack(); break;
                case 1: if (random.nextInt(4) == 0) { tellText(); } break;
                case 2: both("keep", random.nextInt(4), 1, random.nextInt(8), random.nextInt(10)); break;
                case 3: both("lays", random.nextInt(16), random.nextInt(2), random.nextInt(10)); break;
                case 4: if (random.nextInt(4) == 0) { letHairGrow(); } break;
                default: drawnCall();
            }
        }
    }

    /** Names under long hair, and fish over the frontier: the only state in which shaving helps. */
    private void letHairGrow() {
        for (int cat = 0; cat < m.count(0); cat++) {
            both("writes", cat, random.nextInt(Math.max(1, m.count(1))));
        }
        both("hours", 40 + random.nextInt(12));
        both("lays", random.nextInt(16), 0, 9);
        both("waits", random.nextInt(2));
        for (int i = 0; i < 4; i++) {
            both("shave", random.nextInt(40));
        }
    }

    private void lookAround(String land) {
        tell(0, land);
        int cats = m.count(0);
        for (int cat = 0; cat < cats; cat++) {
            both("crosses", cat);
            both("crossings", cat, 99);
            both("good", cat);
            both("meet", cat, (cat + 1) % cats);
            for (int place = 0; place < 16; place++) {
                both("putFish", cat, place, 3, 0);
                both("putFish", cat, place, 3, 1);
            }
        }
        for (int man = 0; man < m.count(1); man++) {
            both("passes", man);
            both("write", man, 0);
            both("write", man, 1);
        }
        for (int n = 1; n <= 24; n++) {
            both("two", n);
        }
        both("first");
        both("all");
        both("deserted", 99);
        both("together", 99, 0);
        both("together", 99, 2);
        both("busiest", 99, 0);
        both("busiest", 99, 1);
    }

    private void drawnCall() {
        String[] call = CALLS[random.nextInt(CALLS.length)].split(" ", -1);
        int args = real.get(call[0]).getParameterCount();
        int[] drawn = new int[args];
        for (int i = 0; i < args; i++) {
            drawn[i] = random.nextInt(30) == 0 ? ODD[random.nextInt(ODD.length)] : drawn(call[1].charAt(i));
        }
        // an hour or a few are told oftener than many, so that hair does not stand long all the time
        if (call[0].equals("hours") && random.nextInt(3) > 0) {
            drawn[0] = 1 + random.nextInt(5);
        }
        both(call[0], drawn);
    }

    private int drawn(char takes) {
        switch (takes) {
            case 'd': return random.nextInt(4);
            case 'c': return random.nextInt(Math.max(1, m.count(0)));
            case 'm': return random.nextInt(Math.max(1, m.count(1)));
            case 'M': return random.nextInt(6) == 0 ? 9 : random.nextInt(Math.max(1, m.count(1)));
            case 'p': return random.nextInt(16);
            case 'n': return random.nextInt(3) == 0 ? random.nextInt(100) : random.nextInt(13);
            case 'h': return 1 + random.nextInt(24);
            case 'v': return 1 + random.nextInt(9);
            case 'f': return random.nextInt(10);
            case 't': return 2 + random.nextInt(19);
            case 'z': return random.nextInt(4) == 0 ? random.nextInt() : random.nextInt(16);
            case 'k': return random.nextInt(101);
            case 'i': return random.nextInt(8);
            default: return random.nextInt(takes - '0' + 1);
        }
    }

    private void tellText() {
        StringBuilder text = new StringBuilder();
        int statements = 1 + random.nextInt(14);
        for (int i = 0; i < statements; i++) {
            text.append(statement());
        }
        if (random.nextInt(8) == 0) {
            text.setCharAt(random.nextInt(text.length()), "cmfxwh;0159q ".charAt(random.nextInt(13)));
        }
        text.setLength(Math.min(100, text.length() - (random.nextInt(12) == 0 ? 1 : 0)));
        tell(random.nextInt(4), text.toString());
    }

    private void tell(int d, String text) {
        both("row", d, 0, text.length());
        for (int i = 0; i < text.length(); i++) {
            both("put", d, i, text.charAt(i));
        }
        both("frontier", d);
    }

    private String statement() {
        boolean odd = random.nextInt(60) == 0;
        int place = random.nextInt(odd ? 20 : 16);
        switch (random.nextInt(10)) {
            case 0: case 1: case 2:
                return String.format("c%d%d%02d;", random.nextInt(odd ? 10 : 8), random.nextInt(10), place);
            case 3: case 4: return "m" + random.nextInt(odd ? 3 : 2) + ";";
            case 5: case 6: return String.format("f%02d%d;", place, random.nextInt(10));
            case 7: return String.format("x%02d%d;", place, random.nextInt(10));
            case 8:
                int cats = m.count(0);
                int men = m.count(1);
                return cats == 0 || men == 0 && !odd ? "m0;"
                    : "w" + random.nextInt(cats + (odd ? 1 : 0)) + random.nextInt(men + (odd ? 1 : 0)) + ";";
            default: return String.format("h%02d;", odd ? random.nextInt(70) : 1 + random.nextInt(6));
        }
    }

    /** Where a cat will be, or how many will have passed, now and then not so, with places skipped. */
    private void tellTrack() {
        int sort = random.nextInt(3);
        int least = new int[] {-128, -32768, Integer.MIN_VALUE}[sort];
        int cat = random.nextInt(6);
        boolean passed = random.nextBoolean();
        int n = random.nextInt(12);
        both("row", 4, sort, n);
        for (int i = 0; i < n; i++) {
            int v = passed ? Integer.bitCount(m.then(i, 0)) : m.catThen(cat, i, 0);
            v = random.nextInt(6) == 0 ? least : random.nextInt(25) == 0 ? random.nextInt(18) - 1 : v;
            both("put", 4, i, v);
        }
        if (passed) {
            both("judge", 4);
        } else {
            for (int what = 0; what < 3; what++) {
                both("whatIs", 4, cat, what);
            }
            both("forged", 4, cat);
        }
    }

    private void both(String call, int... args) {
        calls++;
        if (calls > MOST_CALLS) {
            return;
        }
        String told = "run " + run + ", call " + calls + ": " + call + Arrays.toString(args);
        CHECK.due(told, answer(real.get(call), x, args), answer(model.get(call), m, args));
    }

    private static long answer(Method method, Object of, int... args) {
        Object[] boxed = Arrays.stream(args).boxed().toArray();
        try {
            return ((Number) method.invoke(of, boxed)).longValue();
        } catch (InvocationTargetException e) {
            if (e.getCause() instanceof IllegalArgumentException && method.getName().equals("element")) {
                return Long.MIN_VALUE;
            }
            if (e.getCause() instanceof IllegalStateException && method.getName().equals("element")) {
                return Long.MIN_VALUE + 1;
            }
            throw new AssertionError(method.getName() + Arrays.toString(args) + " threw", e.getCause());
        } catch (IllegalAccessException e) {
            throw new AssertionError(e);
        }
    }
}
