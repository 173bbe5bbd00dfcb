/** Promises 29 to 32. */
public final class WhatItIsTest {
    private static final Check CHECK = new Check("WhatItIsTest");
    private static final long REFUSED = 1000000001L;
    private static final int SKIP = -128;

    private static void due(String call, long got, long want) {
        CHECK.due(call, got, want);
    }

    public static void main(String[] args) {
        kinds();
        figures();
        starts();
        sorts();
        whatIsRefused();
        two();
        dogs();
        mean();
        CHECK.end();
    }

    private static void dueIs(PapersAreOnCats x, int what, int bits, int... told) {
        Check.fill(x, 1, Check.BYTES, told);
        due("whatIs(1, 0, " + what + ") of " + java.util.Arrays.toString(told), x.whatIs(1, 0, what), bits);
    }

    private static void kinds() {
        PapersAreOnCats x = Check.land("c0005;f099;");
        dueIs(x, 0, 255);
        dueIs(x, 0, 255, 5);
        dueIs(x, 0, 0, 4);
        dueIs(x, 0, 1, 5, 6, 7);
        dueIs(x, 0, 1, 5, SKIP, 7);
        dueIs(x, 0, 255, SKIP, SKIP, SKIP);
        dueIs(x, 0, 238, 5, 5);
        dueIs(x, 0, 110, 5, 5, 5);
        dueIs(x, 0, 128, 5, 5, 6);
        dueIs(x, 0, 16, 5, 8, 8, 7);
        dueIs(x, 0, 0, 5, 6, 5);
        dueIs(x, 0, 0, 5, 5, -1);
        x = Check.land("c0005;c3015;");
        dueIs(x, 0, 4, 5, 7);
        dueIs(x, 0, 64, 5, 9, 13, 15);
        due("it is what it was", x.cat(0, 0), 0);
        x = Check.land("c0005;x069;h12;f049;");
        dueIs(x, 0, 33, 5, 4);
        dueIs(x, 0, 2, 5, 6);
        // a hundred hours: the last one counts, too
        int[] told = new int[100];
        java.util.Arrays.fill(told, SKIP);
        told[99] = 6;
        dueIs(Check.land("c0005;x069;"), 0, 2, told);
    }

    private static void figures() {
        PapersAreOnCats x = Check.land("c0005;f099;");
        dueIs(x, 1, 1023);
        dueIs(x, 1, 0x00f, 5, 6, 7);
        dueIs(x, 1, 0x0f0, 5, 7, 9);
        dueIs(x, 1, 0x300, 5, 8, 9);
        dueIs(x, 1, 0x3f0, 5, SKIP, 9);
        dueIs(x, 1, 0, 5, 9);
        due("it has what it had", x.cat(0, 1), 0);
        dueIs(Check.land("c4005;"), 1, 1023, 5, 8);
    }

    private static void starts() {
        PapersAreOnCats x = Check.land("c0005;f099;");
        dueIs(x, 2, 65535);
        dueIs(x, 2, 1 << 5, SKIP, 6);
        dueIs(x, 2, 1 << 8 | 1 << 9 | 1 << 10, SKIP, 9);
        dueIs(x, 2, 1 << 15, 15);
        dueIs(x, 2, 1 << 2, 2, 3, 4);
        dueIs(x, 2, 0, 2, 1);
        dueIs(x, 2, 0, 16);
        due("it is where it was", x.cat(0, 2), 5);
    }

    private static void sorts() {
        PapersAreOnCats x = Check.land("c0005;f099;");
        Check.fill(x, 1, Check.SHORTS, -32768, 6);
        due("the least short is skipped", x.whatIs(1, 0, 0), 1);
        Check.fill(x, 1, Check.SHORTS, -128, 6);
        due("the least byte is not the least short", x.whatIs(1, 0, 0), 0);
        Check.fill(x, 1, Check.INTS, Integer.MIN_VALUE, 6);
        due("the least int is skipped", x.whatIs(1, 0, 0), 1);
        Check.fill(x, 1, Check.INTS, -32768, 6);
        due("the least short is not the least int", x.whatIs(1, 0, 0), 0);
        Check.fill(x, 1, Check.BYTES, 128, 6);
        due("128 as a byte is the least one", x.whatIs(1, 0, 0), 1);
        Check.fill(x, 1, Check.BYTES, 0, 6);
        due("0 is not skipped", x.whatIs(1, 0, 0), 0);
    }

    private static void whatIsRefused() {
        PapersAreOnCats x = Check.land("c0005;");
        due("whatIs(-1, 0, 0)", x.whatIs(-1, 0, 0), -1);
        due("whatIs(8, 0, 0)", x.whatIs(8, 0, 0), -1);
        due("whatIs(0, 1, 0)", x.whatIs(0, 1, 0), -1);
        due("whatIs(0, -1, 0)", x.whatIs(0, -1, 0), -1);
        due("whatIs(0, 0, 3)", x.whatIs(0, 0, 3), -1);
        due("whatIs(0, 0, -1)", x.whatIs(0, 0, -1), -1);
        due("whatIs of nothing", x.whatIs(1, 0, 0), -11);
        due("-1 ahead of -11", x.whatIs(1, 1, 0), -1);
        x.keep(1, 1, 0, 0);
        due("whatIs of a kind", x.whatIs(1, 0, 0), -12);
        due("-1 ahead of -12", x.whatIs(1, 0, 3), -1);
    }

    private static void two() {
        due("nothing changes", Check.land("c0005;").two(2), 0);
        due("the second's fish", Check.land("c0005;").two(3), 1);
        due("the first's fish", Check.land("c0010;").two(3), 10);
        due("both's fish", Check.land("c0005;c0010;").two(3), 11);
        due("one hour", Check.land("c0007;").two(1), 10);
        due("24 hours", Check.land("c3005;").two(24), 0);
        // 9 at most: the second's fish are no more than the nine where the cat is
        due("9 at most", Check.land("c0007;f079;f088;").two(3), 0);
        PapersAreOnCats x = Check.land("c0005;c0010;");
        due("two(0)", x.two(0), -1);
        due("two(25)", x.two(25), -1);
        due("two(-1)", x.two(-1), -1);
        x.two(3);
        due("no fish are put", x.count(5), 0);
    }

    private static void dueDogs(String text, int side, int n, int t, long above, long below) {
        PapersAreOnCats x = Check.land(text);
        String call = "dogs(0, " + side + ", " + n + ", " + t + ", ";
        due(call + "0) in " + text, x.dogs(0, side, n, t, 0), above);
        due(call + "1) in " + text, x.dogs(0, side, n, t, 1), below);
    }

    private static void dogs() {
        dueDogs("c0007;f089;", 1, 1, 2, 1, 2);
        dueDogs("c0007;f089;", 0, 1, 2, 1, 2);
        dueDogs("c0007;f089;", 1, 1, 20, 19, 20);
        dueDogs("c0007;f089;", 0, 1, 20, 1, 20);
        dueDogs("c0007;f089;", 0, 0, 5, 1, 1);
        dueDogs("c0007;f089;", 1, 0, 5, 0, 1);
        dueDogs("c0007;f089;", 1, 2, 3, 8, 9);
        dueDogs("c0007;f089;", 0, 7, 20, 1, 1280000000L);
        dueDogs("c0007;f089;", 1, 7, 20, 1279999999L, 1280000000L);
        // two of four hours: 6 + 4 + 1 of 16
        dueDogs("c0006;f099;", 1, 4, 2, 11, 16);
        // hours go by though no cat goes: the kitten could go at 8 and at 10
        dueDogs("c4006;", 1, 2, 2, 1, 2);
        dueDogs("c4006;", 1, 3, 3, 4, 9);
        dueDogs("c3006;", 0, 7, 20, 1, 1);
        dueDogs("c3006;", 1, 7, 20, 0, 1);
        // no fish less in an hour of dogs: both go or none does
        dueDogs("c0008;c0006;f081;f071;", 1, 1, 4, 1, 1);

        PapersAreOnCats x = Check.land("c0007;");
        due("dogs(1, ..)", x.dogs(1, 0, 1, 2, 0), REFUSED);
        due("dogs(-1, ..)", x.dogs(-1, 0, 1, 2, 0), REFUSED);
        due("side 2", x.dogs(0, 2, 1, 2, 0), REFUSED);
        due("side -1", x.dogs(0, -1, 1, 2, 0), REFUSED);
        due("8 hours", x.dogs(0, 0, 8, 2, 0), REFUSED);
        due("-1 hours", x.dogs(0, 0, -1, 2, 0), REFUSED);
        due("1 in 1", x.dogs(0, 0, 1, 1, 0), REFUSED);
        due("1 in 21", x.dogs(0, 0, 1, 21, 0), REFUSED);
        due("part 2", x.dogs(0, 0, 1, 2, 2), REFUSED);
        due("part -1", x.dogs(0, 0, 1, 2, -1), REFUSED);
    }

    private static void dueMean(String text, long above, long below) {
        PapersAreOnCats x = Check.land(text);
        due("mean(0) in " + text, x.mean(0), above);
        due("mean(1) in " + text, x.mean(1), below);
    }

    private static void mean() {
        dueMean("", 0, 1);
        dueMean("c0000;", 0, 1);
        dueMean("c0000;c0000;c0000;", 0, 1);
        dueMean("c0015;", 15, 1);
        dueMean("c0003;c0004;", 7, 2);
        dueMean("c0003;c0003;c0006;", 4, 1);
        dueMean("c0001;c0001;c0001;c0001;c0004;c0001;", 3, 2);
        dueMean("c0015;c0014;c0013;c0012;c0011;c0010;", 25, 2);
        due("mean(2)", new PapersAreOnCats().mean(2), REFUSED);
        due("mean(-1)", Check.land("c0000;").mean(-1), REFUSED);
    }
}
