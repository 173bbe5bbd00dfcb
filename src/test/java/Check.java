/** Counts answers that are not as due, and makes frontiers from texts. */
final class Check {
    static final int BYTES = 0;
    static final int SHORTS = 1;
    static final int INTS = 2;
    static final int ILLEGAL_ARGUMENT = 1;
    static final int ILLEGAL_STATE = 2;

    private final String test;
    private int wrong;
    private int looked;

    Check(String test) {
        this.test = test;
    }

    /** Where README.md and src are: .ci/run tells it; without that, where the test is run from. */
    static String project() {
        return System.getProperty("project", ".");
    }

    void due(String call, long got, long want) {
        looked++;
        if (got != want) {
            wrong++;
            System.out.println(test + ": " + call + " answered " + got + ", due is " + want);
        }
    }

    /** What element throws: 0 nothing. */
    static int thrownByElement(PapersAreOnCats x, int d, int i) {
        try {
            x.element(d, i);
            return 0;
        } catch (IllegalArgumentException e) {
            return ILLEGAL_ARGUMENT;
        } catch (IllegalStateException e) {
            return ILLEGAL_STATE;
        }
    }

    static PapersAreOnCats land(String text) {
        PapersAreOnCats x = new PapersAreOnCats();
        if (!text.isEmpty() && tell(x, text) < 0) {
            throw new IllegalStateException("the test's own text has a fault: " + text);
        }
        return x;
    }

    /** The text goes by shelf 0. */
    static int tell(PapersAreOnCats x, String text) {
        int[] signs = new int[text.length()];
        for (int i = 0; i < signs.length; i++) {
            signs[i] = text.charAt(i);
        }
        fill(x, 0, BYTES, signs);
        return x.frontier(0);
    }

    static void fill(PapersAreOnCats x, int d, int sort, int... values) {
        x.row(d, sort, values.length);
        for (int i = 0; i < values.length; i++) {
            x.put(d, i, values[i]);
        }
    }

    /** All that can be looked at: the frontier and what the shelves hold. Takes less than 300 calls for short rows. */
    static String told(PapersAreOnCats x) {
        return frontierTold(x) + shelvesTold(x);
    }

    static String frontierTold(PapersAreOnCats x) {
        StringBuilder all = new StringBuilder();
        for (int what = 0; what < 7; what++) {
            all.append(x.count(what)).append(' ');
        }
        for (int i = 0; i < 6; i++) {
            for (int what = 0; what < 8; what++) {
                all.append(x.cat(i, what)).append(' ');
            }
            all.append(x.man(i, 0)).append(' ').append(x.man(i, 1)).append(' ');
        }
        for (int place = 0; place < 16; place++) {
            all.append(x.place(place, 0)).append(' ').append(x.place(place, 1)).append(' ');
        }
        return all.toString();
    }

    private static String shelvesTold(PapersAreOnCats x) {
        StringBuilder all = new StringBuilder();
        for (int d = 0; d < 8; d++) {
            all.append("| ").append(x.cost(d)).append(' ').append(x.toss(d)).append(' ');
            for (int i = 0; i < 101 && thrownByElement(x, d, i) == 0; i++) {
                all.append(x.element(d, i)).append(' ');
            }
        }
        return all.toString();
    }

    void end() {
        if (wrong != 0) {
            System.out.println(test + ": " + wrong + " of " + looked + " answers are not as due");
            System.exit(1);
        }
    }
}
