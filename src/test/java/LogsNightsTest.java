/** Promises 33 to 35. */
public final class LogsNightsTest {
    private static final Check CHECK = new Check("LogsNightsTest");

    private static void due(String call, long got, long want) {
        CHECK.due(call, got, want);
    }

    public static void main(String[] args) {
        forged();
        forgedByHours();
        judge();
        nights();
        CHECK.end();
    }

    private static void dueForged(PapersAreOnCats x, int first, int... log) {
        Check.fill(x, 1, Check.INTS, log);
        due("forged(1, 0) of " + java.util.Arrays.toString(log), x.forged(1, 0), first);
    }

    private static void forged() {
        PapersAreOnCats x = Check.land("c0005;");
        dueForged(x, -4);
        dueForged(x, -4, 0);
        dueForged(x, -4, 15);
        dueForged(x, 0, 16);
        dueForged(x, 0, -1);
        dueForged(x, -4, 3, 4, 5, 5, 6, 5);
        dueForged(x, 1, 3, 5);
        dueForged(x, 2, 3, 3, 1);
        dueForged(x, 1, 15, 16);
        dueForged(x, 1, 0, -1);
        dueForged(x, 1, 0, Integer.MAX_VALUE);
        dueForged(x, 0, Integer.MIN_VALUE, 0);
        dueForged(x, 1, 0, Integer.MIN_VALUE);
        dueForged(Check.land("c6900;"), -4, 0, 8, 0);
        dueForged(Check.land("c6900;"), 3, 0, 8, 15, 6);
        Check.fill(x, 1, Check.BYTES, 3, -128, 3);
        due("nothing is skipped", x.forged(1, 0), 1);

        due("forged(-1, 0)", x.forged(-1, 0), -1);
        due("forged(8, 0)", x.forged(8, 0), -1);
        due("forged(1, 1)", x.forged(1, 1), -1);
        due("forged(1, -1)", x.forged(1, -1), -1);
        due("forged of nothing", x.forged(7, 0), -11);
        due("-1 ahead of -11", x.forged(7, 1), -1);
        x.keep(7, 1, 0, 0);
        due("forged of a kind", x.forged(7, 0), -12);
    }

    private static void forgedByHours() {
        PapersAreOnCats x = Check.land("c7905;");
        dueForged(x, 1, 5, 6);
        dueForged(x, -4, 5, 5, 6);
        dueForged(x, 3, 5, 5, 6, 7);
        dueForged(x, -4, 5, 5, 6, 6, 6, 7);
        dueForged(x, 5, 5, 5, 6, 6, 6, 8);
        x.hours(14);
        dueForged(x, -4, 5, 5, 5, 6);
        dueForged(x, 2, 5, 5, 6);
    }

    private static void dueJudged(PapersAreOnCats x, int first, int... told) {
        Check.fill(x, 1, Check.BYTES, told);
        due("judge(1) of " + java.util.Arrays.toString(told), x.judge(1), first);
    }

    private static void judge() {
        PapersAreOnCats x = Check.land("c0005;c0004;m1;m0;m0;w02;w11;f099;");
        dueJudged(x, -4);
        dueJudged(x, -4, 0, 0, 0, 1, 2, 2);
        dueJudged(x, 2, 0, 0, 1);
        dueJudged(x, 0, 1);
        dueJudged(x, 4, -128, -128, -128, -128, 1);
        dueJudged(x, 3, -128, -128, -128, 0, 1);
        dueJudged(x, 0, -1);
        Check.fill(x, 1, Check.SHORTS, -32768, 0, -128);
        due("the least byte is not the least short", x.judge(1), 2);
        Check.fill(x, 1, Check.INTS, Integer.MIN_VALUE, 0, -32768);
        due("the least short is not the least int", x.judge(1), 2);
        due("no hour has gone by", x.count(2), 8);
        x.hours(4);
        dueJudged(x, -4, 2, 2);
        due("judge(-1)", x.judge(-1), -1);
        due("judge(8)", x.judge(8), -1);
        due("judge of nothing", x.judge(7), -11);
        x.keep(7, 1, 0, 0);
        due("judge of a kind", x.judge(7), -12);
    }

    private static void nights() {
        // seed 1 draws 6, 14, 1, 11, 11, 11, 2, 11, 4, 6
        int[] onSide1 = {0, 1, 1, 2, 3, 4, 4, 5, 5, 5};
        PapersAreOnCats x = Check.land("c3000;");
        for (int n = 1; n <= onSide1.length; n++) {
            due("nights(" + n + ", 1, 1)", x.nights(n, 1, 1), onSide1[n - 1]);
        }
        due("it is where it was", x.cat(0, 2), 0);
        x = Check.land("c3000;c3000;");
        for (int n = 1; n <= 5; n++) {
            due("two cats: nights(" + n + ", 1, 1)", x.nights(n, 1, 1), onSide1[2 * n - 1]);
        }
        x = Check.land("c0015;m0;w00;f159;");
        due("nights(10, 1, 0)", x.nights(10, 1, 0), 5);
        due("nights(2, 1, 0)", x.nights(2, 1, 0), 1);
        due("nobody has passed", x.count(4), 0);
        x = Check.land("c0007;c0007;m0;m0;w00;w11;f089;h01;c3000;f159;");
        due("only those who pass more", x.nights(10, 1, 0), 0);
        x = Check.land("c0900;m0;w00;f159;h47;");
        due("hair is as it is now", x.nights(10, 1, 0), 0);

        // an old one goes at 9, 12, 15, and at 18 only if the ten hours begin at 9
        due("ten hours from 8 on", Check.land("c7000;f159;").nights(10, 1, 1), 7);
        due("ten hours from 9 on", Check.land("c7000;f159;h01;").nights(10, 1, 1), 8);

        // below 0 the sign's bit goes: -1 becomes -1103502900, 1043980748 without it, 15929 over 65536, cut
        due("a seed below 0", Check.land("c3000;").nights(1, -1, 1), 15929 % 16 >= 8 ? 1 : 0);
        x = Check.land("c3000;");
        due("20 nights", x.nights(20, 0, 1), sideOneOf(20, 0));
        due("20 nights of another seed", x.nights(20, Integer.MIN_VALUE, 1), sideOneOf(20, Integer.MIN_VALUE));
        for (int seed = 0; seed < 100; seed++) {
            due("seed " + seed, x.nights(20, seed * 7654321, 1), sideOneOf(20, seed * 7654321));
        }
        due("nights(0, 1, 0)", x.nights(0, 1, 0), -1);
        due("nights(21, 1, 0)", x.nights(21, 1, 0), -1);
        due("nights(1, 1, 2)", x.nights(1, 1, 2), -1);
        due("nights(1, 1, -1)", x.nights(1, 1, -1), -1);
    }

    /** Of one white cat, by longs. */
    private static int sideOneOf(int n, int seed) {
        long z = seed & 0xffffffffL;
        int there = 0;
        for (int night = 0; night < n; night++) {
            z = (z * 1103515245L + 12345L) % (1L << 32);
            if (z % (1L << 31) / 65536 % 16 >= 8) {
                there++;
            }
        }
        return there;
    }
}
