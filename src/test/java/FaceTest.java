import java.lang.reflect.Constructor;
import java.lang.reflect.Field;
import java.lang.reflect.Method;
import java.lang.reflect.Modifier;
import java.util.Arrays;
import java.util.Set;
import java.util.TreeSet;

/** The class has the document's face and nothing beside it, and never throws of itself. */
public final class FaceTest {
    private static final Check CHECK = new Check("FaceTest");
    private static final String[] FACE = {
        "int frontier(int)", "int cat(int, int)", "int man(int, int)", "int place(int, int)", "int comes(int, int)",
        "int waits(int)", "int writes(int, int)", "int lays(int, int, int)", "int carries(int, int)",
        "int hours(int)", "int catThen(int, int, int)", "int then(int, int)", "int crosses(int)",
        "int crossings(int, int)", "int passes(int)", "int first()", "int write(int, int)", "int good(int)",
        "int putFish(int, int, int, int)", "int together(int, int)", "int all()", "int deserted(int)",
        "int meet(int, int)", "int shave(int)", "int bribe(int, int, int)", "int busiest(int, int)",
        "int nearest(int)", "int whatIs(int, int, int)", "int two(int)", "long dogs(int, int, int, int, int)",
        "long mean(int)", "int forged(int, int)", "int judge(int)", "int nights(int, int, int)", "int image()",
        "int restore()", "int count(int)", "int keep(int, int, int, int)", "int row(int, int, int)",
        "int put(int, int, int)", "long element(int, int)", "int copy(int, int, int, int, int)", "int cost(int)",
        "int toss(int)"};
    private static final int[] WILD = {Integer.MIN_VALUE, Integer.MIN_VALUE + 1, -129, -128, -2, -1, 0, 1, 2, 3, 5, 6,
        7, 8, 9, 10, 15, 16, 60, 61, 99, 100, 101, 127, 1000, 65536, Integer.MAX_VALUE - 1, Integer.MAX_VALUE};

    public static void main(String[] args) throws ReflectiveOperationException {
        face();
        insides();
        wildArguments();
        CHECK.end();
    }

    private static void face() {
        Set<String> wanted = new TreeSet<>(Arrays.asList(FACE));
        Set<String> privates = new TreeSet<>();
        Set<String> publics = new TreeSet<>();
        for (Method m : PapersAreOnCats.class.getDeclaredMethods()) {
            if (Modifier.isPrivate(m.getModifiers())) {
                privates.add(m.getName());
                continue;
            }
            publics.add(m.getName());
            String types = Arrays.toString(m.getParameterTypes()).replaceAll("[\\[\\]]", "");
            String told = m.getReturnType() + " " + m.getName() + "(" + types + ")";
            CHECK.due("the face has " + told, wanted.remove(told) ? 1 : 0, 1);
            CHECK.due(told + " is public, of an object", m.getModifiers(), Modifier.PUBLIC);
        }
        CHECK.due("of the face lack " + wanted, wanted.size(), 0);
        privates.retainAll(publics);
        CHECK.due("private ones with public names: " + privates, privates.size(), 0);
    }

    private static void insides() {
        Class<?> face = PapersAreOnCats.class;
        CHECK.due("public and final", face.getModifiers(), Modifier.PUBLIC | Modifier.FINAL);
        for (Constructor<?> c : face.getDeclaredConstructors()) {
            CHECK.due("constructors take nothing", c.getParameterCount(), 0);
        }
        for (Field f : face.getDeclaredFields()) {
            CHECK.due(f.getName() + " is private", Modifier.isPrivate(f.getModifiers()) ? 1 : 0, 1);
        }
        for (Class<?> inside : face.getDeclaredClasses()) {
            CHECK.due(inside + " is static", Modifier.isStatic(inside.getModifiers()) ? 1 : 0, 1);
            CHECK.due(inside + " is not public", Modifier.isPublic(inside.getModifiers()) ? 1 : 0, 0);
        }
    }

    private static void wildArguments() throws ReflectiveOperationException {
        java.util.Random random = new java.util.Random(1);
        Method[] methods = Arrays.stream(PapersAreOnCats.class.getMethods())
            .filter(m -> m.getDeclaringClass() == PapersAreOnCats.class)
            .sorted(java.util.Comparator.comparing(Method::getName)).toArray(Method[]::new);
        for (int run = 0; run < 100; run++) {
            PapersAreOnCats x = run % 2 == 0 ? new PapersAreOnCats()
                : Check.land("c0003;c2305;c5907;c6909;c4012;c7015;m0;m1;w00;w11;f099;x029;");
            for (int call = 0; call < 400; call++) {
                Method m = methods[random.nextInt(methods.length)];
                Object[] drawn = new Object[m.getParameterCount()];
                for (int i = 0; i < drawn.length; i++) {
                    drawn[i] = random.nextInt(3) == 0 ? random.nextInt(10) : WILD[random.nextInt(WILD.length)];
                }
                try {
                    m.invoke(x, drawn);
                } catch (java.lang.reflect.InvocationTargetException e) {
                    boolean told = m.getName().equals("element") && e.getCause().getStackTrace()[0].getMethodName()
                        .equals("element");
                    CHECK.due(m.getName() + Arrays.toString(drawn) + " threw " + e.getCause(), told ? 1 : 0, 1);
                }
            }
        }
    }
}
