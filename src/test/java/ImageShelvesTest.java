/** Promises 36 to 45. */
public final class ImageShelvesTest {
    private static final Check CHECK = new Check("ImageShelvesTest");

    private static void due(String call, long got, long want) {
        CHECK.due(call, got, want);
    }

    public static void main(String[] args) {
        image();
        count();
        keepAndRow();
        put();
        element();
        copy();
        cost();
        toss();
        CHECK.end();
    }

    private static void image() {
        PapersAreOnCats x = Check.land("c2407;c0003;m0;m1;w00;f089;x045;h20;");
        due("restore() of none", x.restore(), -3);
        due("image()", x.image(), 1);
        String before = Check.frontierTold(x);
        Check.tell(x, "c3000;m1;w11;f001;x099;h60;");
        x.carries(0, 15);
        due("restore()", x.restore(), 1);
        due("all is as it was", Check.frontierTold(x).equals(before) ? 1 : 0, 1);
        due("shelves stay", x.element(0, 1), '3');
        x.keep(3, 1, 6, 6);
        x.hours(30);
        due("restore() again", x.restore(), 1);
        due("all is as it was, again", Check.frontierTold(x).equals(before) ? 1 : 0, 1);
        due("shelves stay, again", x.cost(3), 8);
        x.hours(30);
        String later = Check.frontierTold(x);
        due("image() anew", x.image(), 2);
        x.hours(1);
        due("restore() anew", x.restore(), 2);
        due("all is as it was later", Check.frontierTold(x).equals(later) ? 1 : 0, 1);
        x = new PapersAreOnCats();
        due("image() of nothing", x.image(), 0);
        Check.tell(x, "c0000;m0;f019;h05;");
        due("restore() of nothing", x.restore(), 0);
        due("no cats", x.count(0), 0);
        due("no men", x.count(1), 0);
        due("hour 8", x.count(2), 8);
        due("no fish", x.count(5), 0);
        due("a cat comes as the first one", Check.tell(x, "c1203;"), 1);
        due("its kind", x.cat(0, 0), 1);
        x.restore();
        due("a man who comes has not passed", x.waits(1), 0);
        due("not passed", x.man(0, 1), 0);
    }

    private static void count() {
        PapersAreOnCats x = Check.land("c0007;c0000;c5000;m0;m1;m0;w02;w11;w20;f089;f153;h18;");
        int[] counts = {3, 3, 2, 1, 4, 10, 7};
        for (int what = 0; what < counts.length; what++) {
            due("count(" + what + ")", x.count(what), counts[what]);
        }
        due("count(5) at both ends", Check.land("f009;f158;").count(5), 17);
        due("count(7)", x.count(7), -1);
        due("count(-1)", x.count(-1), -1);
        x.writes(1, 9);
        due("count(6) without a name", x.count(6), 5);
        x.hours(30);
        due("count(6) with long hair", x.count(6), 4);
    }

    private static void keepAndRow() {
        PapersAreOnCats x = new PapersAreOnCats();
        due("keep(0, 1, 7, 9)", x.keep(0, 1, 7, 9), 0);
        due("keep(7, 1, 0, 0)", x.keep(7, 1, 0, 0), 0);
        due("keep(8, 1, 0, 0)", x.keep(8, 1, 0, 0), -1);
        due("keep(-1, 1, 0, 0)", x.keep(-1, 1, 0, 0), -1);
        due("keep(8, 0, 0, 0)", x.keep(8, 0, 0, 0), -1);
        due("keep(0, 2, 0, 0)", x.keep(0, 2, 0, 0), -1);
        due("keep(0, -1, 0, 0)", x.keep(0, -1, 0, 0), -1);
        due("keep(0, 1, 8, 0)", x.keep(0, 1, 8, 0), -1);
        due("keep(0, 1, -1, 0)", x.keep(0, 1, -1, 0), -1);
        due("keep(0, 1, 0, 10)", x.keep(0, 1, 0, 10), -1);
        due("keep(0, 1, 0, -1)", x.keep(0, 1, 0, -1), -1);
        due("nothing has changed", x.cost(0), 0);
        due("keep(0, 0, 99, -99)", x.keep(0, 0, 99, -99), 0);
        due("nothing is held", x.cost(0), -11);

        due("row(0, 0, 100)", x.row(0, 0, 100), 0);
        due("element(0, 99)", x.element(0, 99), 0);
        due("row(0, 2, 0)", x.row(0, 2, 0), 0);
        due("row(0, 3, 0)", x.row(0, 3, 0), -1);
        due("row(0, -1, 0)", x.row(0, -1, 0), -1);
        due("row(8, 0, 0)", x.row(8, 0, 0), -1);
        due("row(-1, 0, 0)", x.row(-1, 0, 0), -1);
        due("row(0, 0, 101)", x.row(0, 0, 101), -1);
        due("row(0, 0, -1)", x.row(0, 0, -1), -14);
        due("row(8, 0, -1): -1 ahead of -14", x.row(8, 0, -1), -1);
        due("row(0, 3, -1): -1 ahead of -14", x.row(0, 3, -1), -1);
        due("row(0, 0, least)", x.row(0, 0, Integer.MIN_VALUE), -14);
        x.row(1, 2, 3);
        x.put(1, 2, 77);
        due("a refused row changes nothing", x.row(1, 0, -1), -14);
        due("a refused row changes nothing: element", x.element(1, 2), 77);
        x.row(1, 2, 3);
        due("a row anew", x.element(1, 2), 0);
        x.put(1, 2, 77);
        x.row(1, 2, 1);
        x.row(1, 2, 3);
        due("a row anew, longer again", x.element(1, 2), 0);
    }

    private static void put() {
        PapersAreOnCats x = new PapersAreOnCats();
        int[] puts = {0, 127, 128, 255, 256, -129, 32767, 32768, 65535, 65536, 70000, Integer.MAX_VALUE,
            Integer.MIN_VALUE, -1};
        for (int sort = 0; sort < 3; sort++) {
            x.row(2, sort, 2);
            for (int v : puts) {
                long kept = sort == 0 ? (byte) v : sort == 1 ? (short) v : v;
                due("put(2, 1, " + v + ")", x.put(2, 1, v), 0);
                due("kept in sort " + sort + " of " + v, x.element(2, 1), kept);
            }
            due("the other one is as it was", x.element(2, 0), 0);
        }
        due("put(2, 2, 0)", x.put(2, 2, 0), -13);
        due("put(2, -1, 0)", x.put(2, -1, 0), -13);
        due("put(8, 0, 0)", x.put(8, 0, 0), -1);
        due("put(-1, 0, 0)", x.put(-1, 0, 0), -1);
        due("put(3, 5, 0): -11 ahead of -13", x.put(3, 5, 0), -11);
        x.keep(3, 1, 0, 0);
        due("put(3, 5, 0): -12 ahead of -13", x.put(3, 5, 0), -12);
    }

    private static void element() {
        PapersAreOnCats x = new PapersAreOnCats();
        x.row(0, 0, 2);
        x.keep(1, 1, 0, 0);
        due("element(0, 1)", Check.thrownByElement(x, 0, 1), 0);
        due("element(0, 2)", Check.thrownByElement(x, 0, 2), Check.ILLEGAL_STATE);
        due("element(0, -1)", Check.thrownByElement(x, 0, -1), Check.ILLEGAL_STATE);
        due("element(1, 0)", Check.thrownByElement(x, 1, 0), Check.ILLEGAL_STATE);
        due("element(2, 0)", Check.thrownByElement(x, 2, 0), Check.ILLEGAL_STATE);
        due("element(8, 0)", Check.thrownByElement(x, 8, 0), Check.ILLEGAL_ARGUMENT);
        due("element(-1, -1)", Check.thrownByElement(x, -1, -1), Check.ILLEGAL_ARGUMENT);
        x.row(0, 0, 0);
        due("element of a row of none", Check.thrownByElement(x, 0, 0), Check.ILLEGAL_STATE);
    }

    private static void dueRow(PapersAreOnCats x, int d, int... values) {
        for (int i = 0; i < values.length; i++) {
            due("element(" + d + ", " + i + ")", x.element(d, i), values[i]);
        }
    }

    private static void copy() {
        PapersAreOnCats x = new PapersAreOnCats();
        Check.fill(x, 0, Check.SHORTS, 1, 2, 3, 4);
        Check.fill(x, 1, Check.SHORTS, 5, 6, 7);
        due("copy(0, 1, 1, 0, 2)", x.copy(0, 1, 1, 0, 2), 2);
        dueRow(x, 1, 2, 3, 7);
        dueRow(x, 0, 1, 2, 3, 4);
        due("copy(0, 3, 1, 2, 1)", x.copy(0, 3, 1, 2, 1), 1);
        dueRow(x, 1, 2, 3, 4);
        due("copy(0, 0, 0, 1, 3): in one row", x.copy(0, 0, 0, 1, 3), 3);
        dueRow(x, 0, 1, 1, 2, 3);
        due("copy(0, 1, 0, 0, 3): back", x.copy(0, 1, 0, 0, 3), 3);
        dueRow(x, 0, 1, 2, 3, 3);
        due("copy of none", x.copy(0, 0, 1, 0, 0), 0);
        due("copy of none at the ends", x.copy(0, 4, 1, 3, 0), 0);
        due("from beyond", x.copy(0, 5, 1, 0, 0), -13);
        due("to beyond", x.copy(0, 0, 1, 4, 0), -13);
        due("too many from", x.copy(1, 1, 0, 0, 3), -13);
        due("too many to", x.copy(0, 0, 1, 0, 4), -13);
        due("n below 0", x.copy(0, 1, 1, 1, -1), -13);
        due("i below 0", x.copy(0, -1, 1, 0, 1), -13);
        due("j below 0", x.copy(0, 0, 1, -1, 1), -13);
        due("very large numbers", x.copy(0, Integer.MAX_VALUE, 1, 1, Integer.MAX_VALUE), -13);
        due("very small numbers", x.copy(0, Integer.MIN_VALUE, 1, 0, Integer.MIN_VALUE), -13);
        dueRow(x, 0, 1, 2, 3, 3);
        dueRow(x, 1, 2, 3, 4);
        due("copy(8, ..)", x.copy(8, 0, 0, 0, 0), -1);
        due("copy(.., 8, ..)", x.copy(0, 0, 8, 0, 0), -1);
        due("copy(-1, ..)", x.copy(-1, 0, 0, 0, 0), -1);
        due("copy(.., -1, ..): -1 ahead of -11", x.copy(5, 0, -1, 0, 0), -1);
        due("from nothing", x.copy(5, 0, 0, 0, -1), -11);
        due("to nothing", x.copy(0, 0, 5, 0, -1), -11);
        x.keep(6, 1, 0, 0);
        due("a kind to nothing: -11 ahead of -12", x.copy(6, 0, 5, 0, 0), -11);
        due("nothing to a kind: -11 ahead of -12", x.copy(5, 0, 6, 0, 0), -11);
        due("from a kind", x.copy(6, 0, 0, 0, -1), -12);
        due("to a kind", x.copy(0, 0, 6, 0, -1), -12);
        x.row(7, 0, 2);
        due("bytes from a kind", x.copy(6, 0, 7, 0, 1), -12);
        due("bytes to a kind", x.copy(7, 0, 6, 0, 1), -12);
        due("a kind to a kind", x.copy(6, 0, 6, 0, 0), -12);
        x.row(2, 2, 4);
        due("sorts differ", x.copy(0, 0, 2, 0, -1), -12);
        x.row(2, 0, 4);
        due("sorts differ the other way", x.copy(2, 0, 0, 0, 1), -12);
    }

    private static void cost() {
        PapersAreOnCats x = new PapersAreOnCats();
        for (int figure = 0; figure < 10; figure++) {
            int[] costs = {3, 3 + figure, 2, 8, (3 + figure) / 2, 16, 2 + figure, 0};
            for (int kind = 0; kind < 8; kind++) {
                x.keep(4, 1, kind, figure);
                due("cost of kind " + kind + ", figure " + figure, x.cost(4), costs[kind]);
            }
        }
        due("cost(8)", x.cost(8), -1);
        due("cost(-1)", x.cost(-1), -1);
        due("cost of nothing", x.cost(0), -11);
        x.row(0, 0, 1);
        due("cost of a row", x.cost(0), -12);
    }

    private static void toss() {
        PapersAreOnCats x = new PapersAreOnCats();
        for (int figure = 1; figure < 10; figure++) {
            int[] failures = {figure, figure, 100 + figure, -15, figure, -15, 202 + figure, -15};
            for (int kind = 0; kind < 8; kind++) {
                x.keep(4, 1, kind, figure);
                due("failure of kind " + kind + ", figure " + figure, x.toss(4), failures[kind]);
            }
        }
        for (int kind = 0; kind < 8; kind++) {
            x.keep(4, 1, kind, 0);
            due("failure of kind " + kind + ", figure 0", x.toss(4), -15);
        }
        due("toss(8)", x.toss(8), -1);
        due("toss(-1)", x.toss(-1), -1);
        due("toss of nothing", x.toss(0), -11);
        x.row(0, 0, 1);
        due("toss of a row", x.toss(0), -12);
    }
}
