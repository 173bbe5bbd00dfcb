import java.lang.reflect.InvocationTargetException;
import java.lang.reflect.Method;
import java.util.Arrays;

/**
 * Every argument of every call: its least and its greatest number are taken, the ones beyond and far beyond are
 * refused as told at the call, and a refused call changes nothing.
 */
public final class RangesTest {
    private static final Check CHECK = new Check("RangesTest");
    private static final long REFUSED_LONG = 1000000001L;
    private static final long ILLEGAL_ARGUMENT = Long.MIN_VALUE + 1;
    private static final long ILLEGAL_STATE = Long.MIN_VALUE + 2;

    /** Three cats, two men, hair, passed ones; the text of it lies on shelf 0. */
    private static final String LAND = "c0407;c2303;c5512;m0;m1;f089;f022;x113;w00;w11;h02;";

    public static void main(String[] args) {
        told();
        hoursOn();
        fishAndCrossings();
        whatItIs();
        logsAndNights();
        imageAndCount();
        shelves();
        CHECK.end();
    }

    // ---- the promises, each with all its arguments

    private static void told() {
        ranges("frontier", -1, at(0), "0..7");
        ranges("cat", -1, at(0, 0), "0..2", "0..7");
        ranges("man", -1, at(0, 0), "0..1", "0..1");
        ranges("place", -1, at(0, 0), "0..15", "0..2");
        ranges("comes", -1, at(1, 0), "0..7", "0..15");
        ranges("waits", -1, at(0), "0..1");
        ranges("writes", -1, at(0, 0), "0..2", "0..1");
        ranges("lays", -1, at(0, 0, 0), "0..15", "0..1", "0..9");
        ranges("carries", -1, at(0, 0), "0..2", "0..15");
        ranges("hours", -1, at(1), "1..60");
        // 9 is the only number of a name beside the men's
        for (int man = 2; man <= 20; man++) {
            if (man != 9) {
                due("writes", -1, 0, man);
            }
        }
        CHECK.due("writes(0, 9)", world().writes(0, 9), 0);
    }

    private static void hoursOn() {
        ranges("catThen", -1, at(0, 0, 0), "0..2", "0..99", "0..1");
        ranges("then", -1, at(0, 0), "0..99", "0..1");
        ranges("crosses", -1, at(0), "0..2");
        ranges("crossings", -1, at(0, 0), "0..2", "0..99");
        ranges("passes", -1, at(0), "0..1");
        ranges("write", -1, at(1, 0), "0..1", "0..1");
        ranges("good", -1, at(0), "0..2");
    }

    private static void fishAndCrossings() {
        ranges("putFish", -1, at(0, 0, 1, 0), "0..2", "0..15", "1..9", "0..1");
        ranges("together", -1, at(0, 0), "0..99", "0..2");
        ranges("deserted", -1, at(0), "0..99");
        ranges("meet", -1, at(0, 2), "0..1", "1..2");
        ranges("shave", -1, at(0), "0..99");
        ranges("bribe", -1, at(0, 0, 0), "0..2", "0..15", "0..99");
        ranges("busiest", -1, at(0, 0), "0..99", "0..1");
        ranges("nearest", -1, at(0), "0..1");
        for (int cat = 0; cat < 3; cat++) {
            due("meet", -1, cat, cat);
        }
    }

    private static void whatItIs() {
        ranges("whatIs", -1, at(3, 0, 0), "0..7", "0..2", "0..2");
        ranges("two", -1, at(1), "1..24");
        ranges("dogs", REFUSED_LONG, at(0, 0, 0, 2, 0), "0..2", "0..1", "0..7", "2..20", "0..1");
        ranges("mean", REFUSED_LONG, at(0), "0..1");
    }

    private static void logsAndNights() {
        ranges("forged", -1, at(3, 0), "0..7", "0..2");
        ranges("judge", -1, at(3), "0..7");
        ranges("nights", -1, at(1, 0, 0), "1..20", "", "0..1");
    }

    private static void imageAndCount() {
        ranges("count", -1, at(0), "0..6");
    }

    private static void shelves() {
        ranges("keep", -1, at(3, 1, 0, 0), "0..7", "0..1", "0..7", "0..9");
        ranges("row", -1, at(3, 0, 0), "0..7", "0..2", "..100");
        due("row", -14, 3, 0, -1);
        due("row", -14, 3, 0, Integer.MIN_VALUE);
        due("row", -14, 3, 2, Integer.MIN_VALUE + 1);
        ranges("put", -1, at(3, 0, 0), "0..7", "", "");
        ranges("put", -13, at(3, 0, 0), "", "0..4", "");
        ranges("element", ILLEGAL_ARGUMENT, at(3, 0), "0..7", "");
        ranges("element", ILLEGAL_STATE, at(3, 0), "", "0..4");
        ranges("copy", -1, at(3, 0, 3, 0, 0), "0..7", "", "0..7", "", "");
        ranges("copy", -13, at(3, 0, 3, 0, 1), "", "0..4", "", "0..4", "0..5");
        // of none, the place behind the last one will do
        ranges("copy", -13, at(3, 0, 3, 0, 0), "", "0..5", "", "0..5", "0..5");
        ranges("cost", -1, at(1), "0..7");
        ranges("toss", -1, at(1), "0..7");
        // with 0 nothing, the others do not matter
        for (int v : new int[] {Integer.MIN_VALUE, -1, 8, 10, Integer.MAX_VALUE}) {
            for (int d = 0; d < 8; d++) {
                CHECK.due("keep(" + d + ", 0, " + v + ", " + v + ")", world().keep(d, 0, v, v), 0);
            }
        }
    }

    // ---- how

    private static int[] at(int... args) {
        return args;
    }

    /** Each range is "least..most"; "..most" has no least, "" is not looked at. */
    private static void ranges(String call, long refusal, int[] good, String... ranges) {
        CHECK.due("arguments of " + call, ranges.length, good.length);
        for (int i = 0; i < good.length; i++) {
            if (ranges[i].isEmpty()) {
                continue;
            }
            String[] ends = ranges[i].split("\\.\\.");
            int most = Integer.parseInt(ends[1]);
            taken(call, refusal, with(good, i, most));
            for (int v : new int[] {most + 1, most + 2, most + 256, most + 65536, Integer.MAX_VALUE - 1,
                Integer.MAX_VALUE}) {
                due(call, refusal, with(good, i, v));
            }
            if (ends[0].isEmpty()) {
                continue;
            }
            int least = Integer.parseInt(ends[0]);
            taken(call, refusal, with(good, i, least));
            for (int v : new int[] {least - 1, least - 2, least - 256, least - 65536, Integer.MIN_VALUE + 1,
                Integer.MIN_VALUE}) {
                due(call, refusal, with(good, i, v));
            }
        }
    }

    private static int[] with(int[] good, int i, int v) {
        int[] args = good.clone();
        args[i] = v;
        return args;
    }

    private static void taken(String call, long refusal, int... args) {
        long answer = answer(world(), call, args);
        CHECK.due(call + Arrays.toString(args) + " is taken, not " + answer, answer == refusal ? 0 : 1, 1);
    }

    /** A call that is refused changes nothing, nor the image. */
    private static void due(String call, long refusal, int... args) {
        PapersAreOnCats x = world();
        CHECK.due(call + Arrays.toString(args), answer(x, call, args), refusal);
        String same = "nothing changes by " + call + Arrays.toString(args);
        CHECK.due(same, Check.told(x).equals(AS_MADE) ? 1 : 0, 1);
        x.restore();
        CHECK.due("nor the image by " + call + Arrays.toString(args), x.count(2), 8);
    }

    private static final String AS_MADE = Check.told(world());

    private static PapersAreOnCats world() {
        PapersAreOnCats x = new PapersAreOnCats();
        x.image();
        Check.tell(x, LAND);
        x.keep(1, 1, 6, 4);
        Check.fill(x, 3, Check.INTS, 7, -1, 16, Integer.MAX_VALUE, Integer.MIN_VALUE);
        x.row(4, 1, 2);
        return x;
    }

    private static long answer(PapersAreOnCats x, String call, int... args) {
        for (Method method : PapersAreOnCats.class.getMethods()) {
            if (method.getName().equals(call) && method.getDeclaringClass() == PapersAreOnCats.class) {
                try {
                    return ((Number) method.invoke(x, Arrays.stream(args).boxed().toArray())).longValue();
                } catch (InvocationTargetException e) {
                    return e.getCause().getClass() == IllegalArgumentException.class ? ILLEGAL_ARGUMENT
                        : e.getCause().getClass() == IllegalStateException.class ? ILLEGAL_STATE : Long.MIN_VALUE;
                } catch (IllegalAccessException e) {
                    throw new AssertionError(e);
                }
            }
        }
        throw new AssertionError("no such call: " + call);
    }
}
