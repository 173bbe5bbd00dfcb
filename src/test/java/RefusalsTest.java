/** Each refusal by itself, and two at once: the first one as they are told at the call is the answer. */
public final class RefusalsTest {
    private static final Check CHECK = new Check("RefusalsTest");
    private static final int KIND = 1;
    private static final int BYTES_ROW = 2;
    private static final int SHORTS_ROW = 3;
    private static final int NOTHING = 7;
    private static final int NO_SHELF = 8;

    private static void due(String call, long got, long want) {
        CHECK.due(call, got, want);
    }

    public static void main(String[] args) {
        frontier();
        comes();
        waits();
        hours();
        write();
        meet();
        noneOfThem();
        whatIs();
        longs();
        forgedAndJudge();
        restore();
        rowAndKeep();
        put();
        element();
        copyOfShelves();
        copyOfPlaces();
        costAndToss();
        CHECK.end();
    }

    /** A kind on shelf 1, a row of three bytes on 2, of three shorts on 3, nothing on 7. */
    private static PapersAreOnCats world(String text) {
        PapersAreOnCats x = Check.land(text);
        x.keep(KIND, 1, 0, 1);
        Check.fill(x, BYTES_ROW, Check.BYTES, 1, 2, 3);
        Check.fill(x, SHORTS_ROW, Check.SHORTS, 4, 5, 6);
        return x;
    }

    private static String sixCats() {
        return "c0000;".repeat(6);
    }

    // ---- promise 2: -1, -11, -12 (no ROW of bytes)

    private static void frontier() {
        PapersAreOnCats x = world("");
        due("-1: no such shelf", x.frontier(NO_SHELF), -1);
        due("-11: nothing", x.frontier(NOTHING), -11);
        due("-12: a kind", x.frontier(KIND), -12);
        due("-12: a row of shorts", x.frontier(SHORTS_ROW), -12);
        x.row(SHORTS_ROW, Check.SHORTS, 0);
        due("-12 ahead of the fault of an empty text", x.frontier(SHORTS_ROW), -12);
        x.row(SHORTS_ROW, Check.INTS, 0);
        due("-12 ahead of the fault of an empty text, ints", x.frontier(SHORTS_ROW), -12);
        x.row(SHORTS_ROW, Check.BYTES, 0);
        due("the fault of an empty text", x.frontier(SHORTS_ROW), -1000);
    }

    // ---- promise 6: -1, -11, -12 (a ROW), -2

    private static void comes() {
        PapersAreOnCats x = world("c0000;");
        due("-1: no such shelf", x.comes(NO_SHELF, 0), -1);
        due("-1: no such place", x.comes(KIND, 16), -1);
        due("-11: nothing", x.comes(NOTHING, 0), -11);
        due("-12: a row", x.comes(BYTES_ROW, 0), -12);
        due("-1 ahead of -11", x.comes(NOTHING, 16), -1);
        due("-1 ahead of -12", x.comes(BYTES_ROW, -1), -1);
        due("nobody has come", x.count(0), 1);
        x = world(sixCats());
        due("-2: no room", x.comes(KIND, 0), -2);
        due("-1 ahead of -2, no such place", x.comes(KIND, 16), -1);
        due("-1 ahead of -2, no such shelf", x.comes(-1, 0), -1);
        due("-11 ahead of -2", x.comes(NOTHING, 0), -11);
        due("-12 ahead of -2", x.comes(BYTES_ROW, 0), -12);
        due("six cats still", x.count(0), 6);
    }

    // ---- promise 7: -1, -2

    private static void waits() {
        PapersAreOnCats x = world("m0;m0;m0;m0;m0;");
        due("-1: no such side", x.waits(2), -1);
        due("the sixth", x.waits(1), 5);
        due("-2: no room", x.waits(0), -2);
        due("-2: no room on side 1", x.waits(1), -2);
        due("-1 ahead of -2", x.waits(2), -1);
        due("-1 ahead of -2, below", x.waits(-1), -1);
        due("six men still", x.count(1), 6);
    }

    // ---- promise 11: -1, -3 DAY above 999

    private static void hours() {
        PapersAreOnCats x = world("");
        for (int i = 0; i < 399; i++) {
            x.hours(60);
        }
        due("hours(51)", x.hours(51), 0);
        due("the last hour: day", x.count(3), 999);
        due("the last hour: hour", x.count(2), 23);
        due("-3: day 1000", x.hours(1), -3);
        due("-3: more", x.hours(60), -3);
        due("-1 ahead of -3, above", x.hours(61), -1);
        due("-1 ahead of -3, below", x.hours(0), -1);
        due("still the last hour: day", x.count(3), 999);
        due("still the last hour: hour", x.count(2), 23);
    }

    // ---- promise 18: -1, -3 he has PASSED

    private static void write() {
        PapersAreOnCats x = world("c0007;m0;m1;w00;f089;h01;");
        due("-3: he has passed", x.write(0, 0), -3);
        due("-3: he has passed, when", x.write(0, 1), -3);
        due("-1: no such man", x.write(2, 0), -1);
        due("-1 ahead of -3, above", x.write(0, 2), -1);
        due("-1 ahead of -3, below", x.write(0, -1), -1);
        x = world("m0;");
        due("-4 of no cats", x.write(0, 0), -4);
        due("-1, not -4 of no cats", x.write(0, 2), -1);
        due("-1, not -4 of no cats nor such a man", x.write(1, 0), -1);
    }

    // ---- promise 24: -1 (one twice)

    private static void meet() {
        PapersAreOnCats x = world("c3005;c3005;");
        due("two at one place", x.meet(0, 1), 0);
        due("one twice", x.meet(1, 1), -1);
        due("one twice that is none", x.meet(2, 2), -1);
        due("the first is none", x.meet(2, 0), -1);
        due("the second is none", x.meet(0, 2), -1);
        due("no cats at all", world("").meet(0, 1), -1);
    }

    /** Where a number is out of its range, there is nothing of which -4 could be told. */
    private static void noneOfThem() {
        PapersAreOnCats x = world("");
        due("nearest(0) of no cats", x.nearest(0), -4);
        due("nearest(2) of no cats", x.nearest(2), -1);
        due("shave(99) of no cats", x.shave(99), -4);
        due("shave(100) of no cats", x.shave(100), -1);
        due("together(0, 2)", x.together(0, 2), -4);
        due("together(0, 3)", x.together(0, 3), -1);
        due("together(100, 2)", x.together(100, 2), -1);
        due("crosses(0) of no cats", x.crosses(0), -1);
        due("passes(0) of no men", x.passes(0), -1);
        due("good(0) of no cats", x.good(0), -1);
        x = world("c3000;f009;");
        due("putFish(0, 1, 9, 0)", x.putFish(0, 1, 9, 0), -4);
        due("putFish(0, 1, 9, 2)", x.putFish(0, 1, 9, 2), -1);
        due("putFish(0, 1, 10, 0)", x.putFish(0, 1, 10, 0), -1);
        due("bribe(0, 1, 99)", x.bribe(0, 1, 99), -4);
        due("bribe(0, 1, 100)", x.bribe(0, 1, 100), -1);
        due("crosses(1)", x.crosses(1), -1);
        due("crosses(0)", x.crosses(0), -4);
    }

    // ---- promise 29: -1, -11, -12 (no ROW)

    private static void whatIs() {
        PapersAreOnCats x = world("c0005;");
        due("-1: no such shelf", x.whatIs(NO_SHELF, 0, 0), -1);
        due("-1: no such cat", x.whatIs(BYTES_ROW, 1, 0), -1);
        due("-1: no such thing", x.whatIs(BYTES_ROW, 0, 3), -1);
        due("-11: nothing", x.whatIs(NOTHING, 0, 0), -11);
        due("-12: a kind", x.whatIs(KIND, 0, 0), -12);
        due("-1 ahead of -11, cat", x.whatIs(NOTHING, 1, 0), -1);
        due("-1 ahead of -11, what", x.whatIs(NOTHING, 0, 3), -1);
        due("-1 ahead of -12, cat", x.whatIs(KIND, -1, 0), -1);
        due("-1 ahead of -12, what", x.whatIs(KIND, 0, -1), -1);
        due("any sort of row is one: shorts", x.whatIs(SHORTS_ROW, 0, 0), 0);
    }

    // ---- promises 31 and 32: of longs, refusals are 1000000000 less them

    private static void longs() {
        PapersAreOnCats x = world("");
        due("dogs of no cats", x.dogs(0, 0, 0, 2, 0), 1000000001L);
        due("dogs, all out of range", x.dogs(-1, -1, -1, -1, -1), 1000000001L);
        due("mean(2) of no cats", x.mean(2), 1000000001L);
    }

    // ---- promises 33 and 34: -1, -11, -12

    private static void forgedAndJudge() {
        PapersAreOnCats x = world("c0005;");
        due("forged: -1: no such shelf", x.forged(NO_SHELF, 0), -1);
        due("forged: -1: no such cat", x.forged(BYTES_ROW, 1), -1);
        due("forged: -11: nothing", x.forged(NOTHING, 0), -11);
        due("forged: -12: a kind", x.forged(KIND, 0), -12);
        due("forged: -1 ahead of -11", x.forged(NOTHING, 1), -1);
        due("forged: -1 ahead of -12", x.forged(KIND, 1), -1);
        due("forged: shorts are a row", x.forged(SHORTS_ROW, 0), -4);
        due("judge: -1: no such shelf", x.judge(NO_SHELF), -1);
        due("judge: -11: nothing", x.judge(NOTHING), -11);
        due("judge: -12: a kind", x.judge(KIND), -12);
        due("judge: shorts are a row", x.judge(SHORTS_ROW), 0);
    }

    // ---- promise 37: -3 there is none

    private static void restore() {
        PapersAreOnCats x = world("c0005;h05;");
        due("-3: there is none", x.restore(), -3);
        due("nothing changes", x.count(2), 13);
        due("nothing changes: cats", x.count(0), 1);
        x.image();
        due("there is one", x.restore(), 0);
        due("there is one still", x.restore(), 0);
    }

    // ---- promises 39 and 40: -1; -1 (n above 100), -14

    private static void rowAndKeep() {
        PapersAreOnCats x = world("");
        due("-1: no such shelf", x.row(NO_SHELF, 0, 0), -1);
        due("-1: no such sort", x.row(BYTES_ROW, 3, 0), -1);
        due("-1: above 100", x.row(BYTES_ROW, 0, 101), -1);
        due("-14: below 0", x.row(BYTES_ROW, 0, -1), -14);
        due("-1 ahead of -14, shelf", x.row(NO_SHELF, 0, -1), -1);
        due("-1 ahead of -14, shelf below", x.row(-1, 0, -1), -1);
        due("-1 ahead of -14, sort", x.row(BYTES_ROW, 3, -1), -1);
        due("-1 ahead of -14, sort below", x.row(BYTES_ROW, -1, Integer.MIN_VALUE), -1);
        due("it stays as it is", x.element(BYTES_ROW, 2), 3);
        due("-1: no such shelf for nothing", x.keep(NO_SHELF, 0, 0, 0), -1);
        due("-1: no such kind", x.keep(BYTES_ROW, 1, 8, 0), -1);
        due("-1: no such figure", x.keep(BYTES_ROW, 1, 0, 10), -1);
        due("-1: no such thing", x.keep(BYTES_ROW, 2, 0, 0), -1);
        due("it stays as it is, still", x.element(BYTES_ROW, 2), 3);
    }

    // ---- promise 41: -1, -11, -12, -13

    private static void put() {
        PapersAreOnCats x = world("");
        due("-1: no such shelf", x.put(NO_SHELF, 0, 9), -1);
        due("-11: nothing", x.put(NOTHING, 0, 9), -11);
        due("-12: a kind", x.put(KIND, 0, 9), -12);
        due("-13: behind the last one", x.put(BYTES_ROW, 3, 9), -13);
        due("-13: far behind", x.put(BYTES_ROW, 99, 9), -13);
        due("-13: behind what any row can have", x.put(BYTES_ROW, 100, 9), -13);
        due("-13: below 0", x.put(BYTES_ROW, -1, 9), -13);
        due("-1 ahead of -13", x.put(-1, -1, 9), -1);
        due("-11 ahead of -13", x.put(NOTHING, -1, 9), -11);
        due("-12 ahead of -13", x.put(KIND, -1, 9), -12);
        x.row(BYTES_ROW, Check.BYTES, 0);
        due("-13: a row of none", x.put(BYTES_ROW, 0, 9), -13);
        x.row(BYTES_ROW, Check.INTS, 100);
        due("the last one of a full row", x.put(BYTES_ROW, 99, 9), 0);
        due("the last one of a full row is 9", x.element(BYTES_ROW, 99), 9);
        due("-13: behind a full row", x.put(BYTES_ROW, 100, 9), -13);
        x.row(BYTES_ROW, Check.INTS, 1);
        due("what a longer row had is no place", x.put(BYTES_ROW, 99, 9), -13);
    }

    // ---- promise 42: IllegalArgumentException: no such SHELF; IllegalStateException: no ROW, no such place

    private static void element() {
        PapersAreOnCats x = world("");
        dueThrown(x, NO_SHELF, 0, Check.ILLEGAL_ARGUMENT);
        dueThrown(x, -1, 0, Check.ILLEGAL_ARGUMENT);
        dueThrown(x, NO_SHELF, 999, Check.ILLEGAL_ARGUMENT);
        dueThrown(x, Integer.MIN_VALUE, Integer.MIN_VALUE, Check.ILLEGAL_ARGUMENT);
        dueThrown(x, Integer.MAX_VALUE, Integer.MAX_VALUE, Check.ILLEGAL_ARGUMENT);
        dueThrown(x, NOTHING, 0, Check.ILLEGAL_STATE);
        dueThrown(x, KIND, 0, Check.ILLEGAL_STATE);
        dueThrown(x, BYTES_ROW, 2, 0);
        dueThrown(x, BYTES_ROW, 3, Check.ILLEGAL_STATE);
        dueThrown(x, BYTES_ROW, 4, Check.ILLEGAL_STATE);
        dueThrown(x, BYTES_ROW, 99, Check.ILLEGAL_STATE);
        dueThrown(x, BYTES_ROW, 100, Check.ILLEGAL_STATE);
        dueThrown(x, BYTES_ROW, Integer.MAX_VALUE, Check.ILLEGAL_STATE);
        dueThrown(x, BYTES_ROW, -1, Check.ILLEGAL_STATE);
        dueThrown(x, BYTES_ROW, Integer.MIN_VALUE, Check.ILLEGAL_STATE);
        x.row(BYTES_ROW, Check.INTS, 100);
        dueThrown(x, BYTES_ROW, 99, 0);
        dueThrown(x, BYTES_ROW, 100, Check.ILLEGAL_STATE);
        x.row(BYTES_ROW, Check.INTS, 0);
        dueThrown(x, BYTES_ROW, 0, Check.ILLEGAL_STATE);
    }

    private static void dueThrown(PapersAreOnCats x, int d, int i, int thrown) {
        due("element(" + d + ", " + i + ") throws", Check.thrownByElement(x, d, i), thrown);
    }

    // ---- promise 43: -1, -11 (either), -12 (no ROWS of one SORT), -13 (n below 0, too)

    private static void copyOfShelves() {
        PapersAreOnCats x = world("");
        // from each of these to each of these, with places that are there and with such as are not
        int[] shelves = {NO_SHELF, -1, NOTHING, KIND, BYTES_ROW, SHORTS_ROW};
        int[][] answers = {
            {-1, -1, -1, -1, -1, -1},
            {-1, -1, -1, -1, -1, -1},
            {-1, -1, -11, -11, -11, -11},
            {-1, -1, -11, -12, -12, -12},
            {-1, -1, -11, -12, 0, -12},
            {-1, -1, -11, -12, -12, 0}};
        for (int a = 0; a < shelves.length; a++) {
            for (int b = 0; b < shelves.length; b++) {
                String call = "copy from " + shelves[a] + " to " + shelves[b];
                int answer = answers[a][b];
                due(call, x.copy(shelves[a], 0, shelves[b], 0, 0), answer);
                due(call + ", n below 0", x.copy(shelves[a], 0, shelves[b], 0, -1), answer == 0 ? -13 : answer);
                due(call + ", i too large", x.copy(shelves[a], 4, shelves[b], 0, 1), answer == 0 ? -13 : answer);
                due(call + ", j below 0", x.copy(shelves[a], 0, shelves[b], -1, 1), answer == 0 ? -13 : answer);
            }
        }
        // three sorts, and two rows of one sort that are full or empty
        x.row(4, Check.INTS, 100);
        x.row(5, Check.INTS, 100);
        x.put(4, 99, 7);
        due("ints to bytes", x.copy(4, 0, BYTES_ROW, 0, 0), -12);
        due("shorts to ints", x.copy(SHORTS_ROW, 0, 4, 0, 0), -12);
        due("a full row to a full row", x.copy(4, 0, 5, 0, 100), 100);
        due("a full row to a full row: the last one", x.element(5, 99), 7);
        due("one more", x.copy(4, 0, 5, 0, 101), -13);
        due("one farther", x.copy(4, 1, 5, 0, 100), -13);
        due("one farther there", x.copy(4, 0, 5, 1, 100), -13);
        x.row(5, Check.INTS, 0);
        due("none to an empty row", x.copy(4, 0, 5, 0, 0), 0);
        due("one to an empty row", x.copy(4, 0, 5, 0, 1), -13);
        due("one from an empty row", x.copy(5, 0, 4, 0, 1), -13);
    }

    private static void copyOfPlaces() {
        int[] odd = {Integer.MIN_VALUE, -1, 0, 1, 2, 3, 4, 5, 99, 100, Integer.MAX_VALUE};
        for (int i : odd) {
            PapersAreOnCats x = world("");
            Check.fill(x, 4, Check.BYTES, 11, 12, 13, 14);
            for (int j : odd) {
                for (int n : new int[] {Integer.MIN_VALUE, Integer.MAX_VALUE, -1, 4, 3}) {
                    boolean there = n >= 0 && i >= 0 && j >= 0 && (long) i + n <= 3 && (long) j + n <= 4;
                    due("copy(2, " + i + ", 4, " + j + ", " + n + ")", x.copy(BYTES_ROW, i, 4, j, n),
                        there ? n : -13);
                }
            }
            due("the last one of four", x.element(4, 3), i == 0 ? 3 : 14);
        }
    }

    // ---- promises 44 and 45: -1, -11, -12 (a ROW); -15

    private static void costAndToss() {
        PapersAreOnCats x = world("");
        due("cost: -1: no such shelf", x.cost(NO_SHELF), -1);
        due("cost: -11: nothing", x.cost(NOTHING), -11);
        due("cost: -12: a row", x.cost(BYTES_ROW), -12);
        due("cost of a kind", x.cost(KIND), 3);
        due("toss: -1: no such shelf", x.toss(NO_SHELF), -1);
        due("toss: -11: nothing", x.toss(NOTHING), -11);
        due("toss: -12: a row", x.toss(BYTES_ROW), -12);
        due("toss of a kind", x.toss(KIND), 1);
        x.row(KIND, Check.BYTES, 0);
        due("a row in its place: cost", x.cost(KIND), -12);
        due("a row in its place: toss", x.toss(KIND), -12);
        x.keep(KIND, 0, 0, 0);
        due("nothing in its place: cost", x.cost(KIND), -11);
        due("nothing in its place: toss", x.toss(KIND), -11);
        x.keep(BYTES_ROW, 1, 5, 0);
        due("a kind in a row's place: cost", x.cost(BYTES_ROW), 16);
        due("a kind in a row's place: -15 of figure 0", x.toss(BYTES_ROW), -15);
        dueThrown(x, BYTES_ROW, 0, Check.ILLEGAL_STATE);
    }
}
