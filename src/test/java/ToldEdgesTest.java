import java.util.Arrays;

/** What a cat is, customs, dogs, logs and nights, rows and the image: the ends of each, sentence by sentence. */
public final class ToldEdgesTest {
    private static final Check CHECK = new Check("ToldEdgesTest");
    private static final int[] LEAST = {-128, -32768, Integer.MIN_VALUE};
    private static final int ALL_KINDS = 255;
    private static final int ALL_FIGURES = 1023;
    private static final int ALL_PLACES = 65535;

    private static void due(String call, long got, long want) {
        CHECK.due(call, got, want);
    }

    public static void main(String[] args) {
        emptyRowTells();
        leastIsSkipped();
        hundredHours();
        noSuchPlaces();
        hourByHour();
        twoHours();
        twoFish();
        dogsEnds();
        dogsHourAndHair();
        meanEnds();
        forgedFirst();
        forgedPace();
        forgedOverMidnight();
        judgeEnds();
        nightsEnds();
        draws();
        lowestBits();
        rowEnds();
        rowsAndShelvesStay();
        imageIsAlone();
        costAndTossEnds();
        CHECK.end();
    }

    private static int whatIs(PapersAreOnCats x, int sort, int what, int... told) {
        Check.fill(x, 1, sort, told);
        return x.whatIs(1, 0, what);
    }

    // ---- "a ROW tells where a CAT is behind 0, 1, .. hours (the least number of the SORT is skipped)"

    private static void emptyRowTells() {
        for (int sort = 0; sort < 3; sort++) {
            PapersAreOnCats x = Check.land("c3005;");
            due("kinds of an empty row", whatIs(x, sort, 0), ALL_KINDS);
            due("figures of an empty row", whatIs(x, sort, 1), ALL_FIGURES);
            due("starts of an empty row", whatIs(x, sort, 2), ALL_PLACES);
            due("forged of an empty row", x.forged(1, 0), -4);
            due("judge of an empty row", x.judge(1), -4);
        }
    }

    private static void leastIsSkipped() {
        for (int sort = 0; sort < 3; sort++) {
            int least = LEAST[sort];
            PapersAreOnCats x = Check.land("c3005;");
            due("one skipped: kinds", whatIs(x, sort, 0, least), ALL_KINDS);
            due("one skipped: figures", whatIs(x, sort, 1, least), ALL_FIGURES);
            due("one skipped: starts", whatIs(x, sort, 2, least), ALL_PLACES);
            due("one skipped: judge", x.judge(1), -4);
            due("none is skipped by forged", x.forged(1, 0), 0);
            for (int v : new int[] {least + 1, -1, 127}) {
                due(v + " is not skipped: starts", whatIs(x, sort, 2, v), 0);
                due(v + " is not skipped: judge", x.judge(1), 0);
            }
            due("skipped, then told", whatIs(x, sort, 2, least, 5), 1 << 5);
            due("told, then skipped", whatIs(x, sort, 2, 5, least), 1 << 5);
            due("skipped among told ones", whatIs(x, sort, 2, 5, least, 5, least, 4), 0);
            Check.fill(x, 1, sort, least, least, 0, 1);
            due("judge: skipped, then told", x.judge(1), 3);
        }
        // the least of a smaller sort is no more than a number in a larger one
        PapersAreOnCats x = Check.land("c3005;");
        due("the least byte among shorts", whatIs(x, Check.SHORTS, 2, -128), 0);
        due("the least byte among ints", whatIs(x, Check.INTS, 2, -128), 0);
        due("the least short among ints", whatIs(x, Check.INTS, 2, -32768), 0);
        due("what is put keeps its lowest bits, then it is the least", whatIs(x, Check.BYTES, 2, 128), ALL_PLACES);
        due("what is put keeps its lowest bits, shorts", whatIs(x, Check.SHORTS, 2, 32768), ALL_PLACES);
    }

    /** A row of 100 tells up to behind 99 hours. */
    private static void hundredHours() {
        int[] told = new int[100];
        Arrays.fill(told, -128);
        PapersAreOnCats x = Check.land("c4007;m0;w00;");
        int there = x.catThen(0, 99, 0);
        told[99] = there;
        due("the kitten behind 99", whatIs(x, 0, 0, told) & 16, 16);
        told[99] = 15 - there;
        due("not the kitten behind 99", whatIs(x, 0, 0, told) & 16, 0);
        told[99] = 1;
        Check.fill(x, 1, 0, told);
        due("one has passed behind 99", x.judge(1), -4);
        told[99] = 0;
        Check.fill(x, 1, 0, told);
        due("not none", x.judge(1), 99);
        Arrays.fill(told, 3);
        told[99] = 7;
        Check.fill(x, 1, 0, told);
        due("the last one is forged", x.forged(1, 0), 99);
        told[99] = 6;
        Check.fill(x, 1, 0, told);
        due("the last one is not forged", x.forged(1, 0), -4);
    }

    private static void noSuchPlaces() {
        PapersAreOnCats x = Check.land("c3005;");
        for (int v : new int[] {-1, 16, 100, Integer.MAX_VALUE, Integer.MIN_VALUE + 1}) {
            for (int what = 0; what < 3; what++) {
                due("at " + v, whatIs(x, Check.INTS, what, v), 0);
                due("at " + v + " then", whatIs(x, Check.INTS, what, 5, v), 0);
            }
        }
        for (int place = 0; place < 16; place++) {
            due("starts at " + place, whatIs(x, Check.INTS, 2, place), 1 << place);
            due("kinds at " + place, whatIs(x, Check.INTS, 0, place), place == 5 ? ALL_KINDS : 0);
            due("figures at " + place, whatIs(x, Check.INTS, 1, place), place == 5 ? ALL_FIGURES : 0);
        }
    }

    /** The first element is behind 0 hours, the second behind 1: all by all of it. */
    private static void hourByHour() {
        PapersAreOnCats x = Check.land("c0005;f159;");
        due("of one that goes by one", whatIs(x, 0, 1, 5, 6, 7), 0x00f);
        due("of one that goes by two", whatIs(x, 0, 1, 5, 7, 9), 0x0f0);
        due("of one that goes by three", whatIs(x, 0, 1, 5, 8, 11), 0x300);
        due("of one that goes no farther", whatIs(x, 0, 1, 5, -128, 11, 14, 15, 15), 0x300);
        due("by all of it but one", whatIs(x, 0, 1, 5, 8, 11, 14, 15, 14), 0);
        due("the hour is this one", whatIs(x, 0, 0, 5, 5, 6) & 128, 128);
        x.hours(1);
        x.carries(0, 5);
        due("the hour is the next one", whatIs(x, 0, 0, 5, 6, 6) & 128, 128);
    }

    // ---- "each would have most CATS on its own SIDE behind n hours (1 .. 24)"

    private static void twoHours() {
        // an old one goes eight places a day: from 7 o'clock on it is at 8 behind 24 hours, not behind 23
        PapersAreOnCats x = Check.land("h23;c7000;");
        due("the hour", x.count(2), 7);
        due("behind 23 nobody has more", x.two(23), 0);
        // the first's fish do not keep it: it takes one of them at 7, and then there are more at 8
        due("behind 24 the second has more", x.two(24), 1);
        due("behind 1", Check.land("c0007;").two(1), 10);
        due("no cats", new PapersAreOnCats().two(24), 0);
        // no such pair, found by search
        due("none", Check.land(EdgesTest.LANDS[9]).two(6), -4);
    }

    /** "each put 3 FISH more at 7 (the first), at 8 (the second)", nine at most. */
    private static void twoFish() {
        // with two where it is, three are more; with three they are as many and it stays
        due("three are more than two", Check.land("c0009;f092;").two(2), 10);
        due("three are not more than three", Check.land("c0009;f093;").two(2), 0);
        due("the second's, more than two", Check.land("c0006;f062;").two(2), 1);
        due("the second's, not more than three", Check.land("c0006;f063;").two(2), 0);
        due("nine at most at 8", Check.land("c0006;f069;f088;").two(2), 0);
        due("nine at most at 7", Check.land("c0009;f099;f078;").two(2), 0);
        due("eight and more are nine", Check.land("c0006;f068;f088;").two(2), 1);
    }

    // ---- "in each of n hours (0 .. 7), by itself, no CAT goes with odds 1 in t (2 .. 20)"

    private static void dogsEnds() {
        PapersAreOnCats x = Check.land("c0007;f089;");
        for (int t = 2; t <= 20; t++) {
            long all = 1;
            for (int n = 0; n <= 7; n++) {
                // it stays here only if dogs are there in each of the hours
                due("here, " + n + " hours, 1 in " + t, x.dogs(0, 0, n, t, 0), 1);
                due("here, below, " + n + " hours, 1 in " + t, x.dogs(0, 0, n, t, 1), all);
                due("there, " + n + " hours, 1 in " + t, x.dogs(0, 1, n, t, 0), all - 1);
                due("there, below, " + n + " hours, 1 in " + t, x.dogs(0, 1, n, t, 1), all);
                all *= t;
            }
            if (t % 5 == 0) {
                x = Check.land("c0007;f089;");
            }
        }
        x = Check.land("c3000;");
        due("surely", x.dogs(0, 0, 7, 20, 0), 1);
        due("surely, below", x.dogs(0, 0, 7, 20, 1), 1);
        due("never", x.dogs(0, 1, 7, 20, 0), 0);
        due("never, below", x.dogs(0, 1, 7, 20, 1), 1);
        // two of three hours are needed: 3 * 4 / 27 + 8 / 27 = 20 / 27
        x = Check.land("c0006;f099;");
        due("two of three", x.dogs(0, 1, 3, 3, 0), 20);
        due("two of three, below", x.dogs(0, 1, 3, 3, 1), 27);
        // in least terms: two of two hours, 9 / 16; two of three, 54 / 64 = 27 / 32
        due("two of two", x.dogs(0, 1, 2, 4, 0), 9);
        due("in least terms", x.dogs(0, 1, 3, 4, 0), 27);
        due("in least terms, below", x.dogs(0, 1, 3, 4, 1), 32);
    }

    /** Hours go by in which no cat goes. */
    private static void dogsHourAndHair() {
        // an old one could go at 9 only of 8 and 9 and 10
        PapersAreOnCats x = Check.land("c7007;f089;");
        due("at 8", x.dogs(0, 1, 1, 2, 0), 0);
        due("at 8 and 9", x.dogs(0, 1, 2, 2, 0), 1);
        due("at 8 and 9, below", x.dogs(0, 1, 2, 2, 1), 2);
        due("at 8, 9 and 10", x.dogs(0, 1, 3, 2, 1), 2);
        // at 12 again
        due("at 8 to 12", x.dogs(0, 1, 5, 2, 0), 3);
        due("at 8 to 12, below", x.dogs(0, 1, 5, 2, 1), 4);
        due("no hour has gone by", x.count(2), 8);
    }

    // ---- "MEAN PLACE of CATS: a fraction in least terms (0 by 1 of none)"

    private static void meanEnds() {
        due("none", new PapersAreOnCats().mean(0), 0);
        due("none, below", new PapersAreOnCats().mean(1), 1);
        for (int place = 0; place < 16; place++) {
            PapersAreOnCats x = new PapersAreOnCats();
            x.keep(0, 1, 3, 0);
            for (int cats = 1; cats <= 6; cats++) {
                x.comes(0, place);
                due(cats + " at " + place, x.mean(0), place);
                due(cats + " at " + place + ", below", x.mean(1), 1);
            }
        }
        PapersAreOnCats x = Check.land("c3000;c3000;c3000;c3000;c3000;c3001;");
        due("1 by 6", x.mean(0), 1);
        due("1 by 6, below", x.mean(1), 6);
        x = Check.land("c3015;c3015;c3015;c3015;c3015;c3014;");
        due("89 by 6", x.mean(0), 89);
        due("89 by 6, below", x.mean(1), 6);
    }

    // ---- "the first that can not be .. (the first only above 15 or below 0; no such PLACE, too); -4"

    private static int forged(PapersAreOnCats x, int... log) {
        Check.fill(x, 1, Check.INTS, log);
        return x.forged(1, 0);
    }

    private static void forgedFirst() {
        PapersAreOnCats x = Check.land("c0005;");
        for (int place = 0; place < 16; place++) {
            due("the first at " + place, forged(x, place), -4);
        }
        for (int v : new int[] {-1, 16, 255, 256, -128, Integer.MAX_VALUE, Integer.MIN_VALUE}) {
            due("the first at " + v, forged(x, v), 0);
            due("the second at " + v, forged(x, 15, v), 1);
            due("the second at " + v + ", from 0", forged(x, 0, v), 1);
            due("the third at " + v, forged(x, 0, 0, v, 0), 2);
        }
    }

    private static void forgedPace() {
        for (int kind = 0; kind < 8; kind++) {
            for (int figure = 0; figure <= 9; figure++) {
                PapersAreOnCats x = Check.land("c" + kind + figure + "00;");
                int pace = x.cat(0, 6);
                due("by its pace, " + kind + figure, forged(x, 0, pace), -4);
                due("by its pace back, " + kind + figure, forged(x, 15, 15 - pace), -4);
                due("by one more, " + kind + figure, forged(x, 0, pace + 1), 1);
                due("by one more back, " + kind + figure, forged(x, 15, 14 - pace), 1);
            }
        }
        PapersAreOnCats x = Check.land("c0005;");
        due("goals are no matter, nor where it is", forged(x, 9, 8, 9, 10, 10, 11), -4);
        due("of several the first", forged(x, 0, 5, 9, 20), 1);
    }

    /** An old one could go at 9, 12, .. 21, 0, 3 only: element i is behind the hour of the one ahead of it. */
    private static void forgedOverMidnight() {
        for (int hour = 0; hour < 24; hour++) {
            PapersAreOnCats x = new PapersAreOnCats();
            x.hours((hour + 16 - 1) % 24 + 1);
            due("the hour", x.count(2), hour);
            x.keep(0, 1, 7, 0);
            x.comes(0, 0);
            for (int i = 1; i <= 26; i++) {
                int[] log = new int[i + 1];
                log[i] = 1;
                due("at " + hour + ", element " + i, forged(x, log), (hour + i - 1) % 24 % 3 == 0 ? -4 : i);
                if (i % 9 == 0) {
                    // an object is good for 512 calls
                    x = new PapersAreOnCats();
                    x.hours((hour + 16 - 1) % 24 + 1);
                    x.keep(0, 1, 7, 0);
                    x.comes(0, 0);
                }
            }
        }
    }

    // ---- "how many have PASSED behind 0, 1, .. hours: the first that is not so (skipped likewise); -4"

    private static void judgeEnds() {
        PapersAreOnCats x = Check.land("c0007;c0006;m0;m0;w00;w11;f089;");
        Check.fill(x, 1, 0, 0, 1, 2, 2);
        due("all so", x.judge(1), -4);
        Check.fill(x, 1, 0, 1);
        due("the first is not so", x.judge(1), 0);
        Check.fill(x, 1, 0, 0, 0, 0);
        due("the second is not so, nor the third", x.judge(1), 1);
        Check.fill(x, 1, 0, -128, -128, 1);
        due("skipped, and then not so", x.judge(1), 2);
        Check.fill(x, 1, 1, 0, 1, 258);
        due("258 are not 2", x.judge(1), 2);
        Check.fill(x, 1, 2, 0, 1, 65538);
        due("65538 are not 2", x.judge(1), 2);
        due("without men", new PapersAreOnCats().judge(1), -11);
        x = new PapersAreOnCats();
        Check.fill(x, 1, 2, 0, 0, 0, -1);
        due("nobody, never -1", x.judge(1), 3);
    }

    // ---- "NIGHTS with a seed z: n (1 .. 20), each from now"

    private static void nightsEnds() {
        PapersAreOnCats x = new PapersAreOnCats();
        due("no cats", x.nights(20, 1, 0), 0);
        due("no cats, on side 1", x.nights(20, 1, 1), 0);
        x = Check.land("c0007;m0;w00;f089;h01;");
        due("who has passed now is not more", x.nights(20, 1, 0), 0);
        // each from now: the one fish that is taken in a night is there in the next one
        x = Check.land("c0000;f081;");
        due("the fish is there each night", x.nights(20, 1, 1), 20);
        due("it is there still", x.count(5), 1);
        // by 3 places an hour all are at 15 behind 5 hours
        x = Check.land("c0900;f159;");
        due("20 nights", x.nights(20, 1, 1), 20);
        x = Check.land("c0900;c0900;c0900;c0900;c0900;c0900;f159;");
        due("20 nights of six", x.nights(20, 1, 1), 120);
        due("one night of six", x.nights(1, 1, 1), 6);
        due("seeds at the ends", x.nights(20, Integer.MIN_VALUE, 1), 120);
        due("seeds at the ends, greatest", x.nights(20, Integer.MAX_VALUE, 1), 120);
        due("nothing changes", x.cat(5, 2), 0);
        due("no hour goes by", x.count(2), 8);
    }

    /** "z becomes z times 1103515245 plus 12345 (an int); (z without its sign's bit over 65536, cut) modulo n". */
    private static void draws() {
        int[] seeds = {0, 1, -1, 2, Integer.MAX_VALUE, Integer.MIN_VALUE, 123456789, -987654321, 65535, 65536};
        for (int seed : seeds) {
            PapersAreOnCats x = Check.land("c3000;c3000;c3000;");
            long z = seed;
            int there = 0;
            for (int n = 1; n <= 20; n++) {
                for (int cat = 0; cat < 3; cat++) {
                    z = Math.floorMod(z * 1103515245L + 12345L, 1L << 32);
                    there += z % (1L << 31) / 65536 % 16 >= 8 ? 1 : 0;
                }
                due("nights(" + n + ", " + seed + ", 1)", x.nights(n, seed, 1), there);
            }
        }
    }

    // ---- "what is put in keeps its lowest bits", "0 .. 100 elements, 0 at first"

    private static void lowestBits() {
        PapersAreOnCats x = new PapersAreOnCats();
        int[] puts = {127, 128, 255, 256, -128, -129, -256, -257, 32767, 32768, 65535, 65536, -32768, -32769,
            Integer.MAX_VALUE, Integer.MIN_VALUE};
        int[] bytes = {127, -128, -1, 0, -128, 127, 0, -1, -1, 0, -1, 0, 0, -1, -1, 0};
        int[] shorts = {127, 128, 255, 256, -128, -129, -256, -257, 32767, -32768, -1, 0, -32768, 32767, -1, 0};
        x.row(0, 0, 1);
        x.row(1, 1, 1);
        x.row(2, 2, 1);
        for (int i = 0; i < puts.length; i++) {
            x.put(0, 0, puts[i]);
            x.put(1, 0, puts[i]);
            x.put(2, 0, puts[i]);
            due("byte of " + puts[i], x.element(0, 0), bytes[i]);
            due("short of " + puts[i], x.element(1, 0), shorts[i]);
            due("int of " + puts[i], x.element(2, 0), puts[i]);
        }
    }

    private static void rowEnds() {
        PapersAreOnCats x = new PapersAreOnCats();
        for (int sort = 0; sort < 3; sort++) {
            due("100 elements", x.row(7, sort, 100), 0);
            for (int i = 0; i < 100; i += 33) {
                due("0 at first", x.element(7, i), 0);
                due("put", x.put(7, i, 5), 0);
                due("5 then", x.element(7, i), 5);
            }
            due("no element 100", Check.thrownByElement(x, 7, 100), Check.ILLEGAL_STATE);
            due("none", x.row(7, sort, 0), 0);
            due("no element 0", Check.thrownByElement(x, 7, 0), Check.ILLEGAL_STATE);
            due("100 elements again", x.row(7, sort, 100), 0);
            due("0 at first again", x.element(7, 99), 0);
        }
    }

    // ---- "what is taken from a SHELF stays there"

    private static void rowsAndShelvesStay() {
        PapersAreOnCats x = new PapersAreOnCats();
        x.keep(3, 1, 6, 9);
        due("comes", x.comes(3, 5), 0);
        due("it stays on its shelf", x.cost(3), 11);
        due("comes again", x.comes(3, 5), 1);
        due("tossed", x.toss(3), 211);
        due("it stays though it is tossed", x.cost(3), 11);
        Check.fill(x, 0, 0, 1, 2, 3);
        Check.fill(x, 1, 0, 4, 5, 6);
        due("copy", x.copy(0, 0, 1, 1, 2), 2);
        due("it stays there", x.element(0, 1), 2);
        due("it is here", x.element(1, 2), 2);
        due("what is not reached stays", x.element(1, 0), 4);
        due("in one row, over itself", x.copy(0, 0, 0, 1, 2), 2);
        due("as it was ahead of that", x.element(0, 2), 2);
        due("in one row, to itself", x.copy(0, 0, 0, 0, 3), 3);
        due("as it is", x.element(0, 2), 2);
        x.whatIs(1, 0, 0);
        x.forged(1, 0);
        x.judge(1);
        due("told rows stay", x.element(1, 2), 2);
        x.put(0, 0, 99);
        due("a copy is by itself", x.element(1, 1), 1);
    }

    // ---- "THE IMAGE: all that there is, but SHELVES (and THE IMAGE); RESTORED all is as it was then"

    private static void imageIsAlone() {
        PapersAreOnCats x = Check.land("c0007;m0;w00;f089;x033;h23;");
        due("DAY", x.image(), 1);
        String then = Check.frontierTold(x);
        x.keep(3, 1, 1, 9);
        x.hours(48);
        due("DAY of then", x.restore(), 1);
        due("as it was", Check.frontierTold(x).equals(then) ? 1 : 0, 1);
        due("shelves stay", x.cost(3), 12);
        // what changes behind that does not change the image
        x.lays(8, 0, 1);
        x.lays(3, 1, 9);
        x.carries(0, 0);
        x.writes(0, 9);
        x.waits(1);
        x.comes(3, 15);
        x.hours(60);
        due("DAY of then, again", x.restore(), 1);
        due("as it was, again", Check.frontierTold(x).equals(then) ? 1 : 0, 1);
        due("the row of bytes stays", x.element(0, 0), 'c');
        x.hours(60);
        due("another one", x.image(), 3);
        due("in place of the first", x.restore(), 3);
        // looking ahead, and texts with faults, do not change the image
        x.nights(20, 1, 0);
        x.shave(99);
        Check.tell(x, "c0000;m1;h60;m2;");
        String later = Check.frontierTold(x);
        x.hours(1);
        due("DAY of later", x.restore(), 3);
        due("as it was later", Check.frontierTold(x).equals(later) ? 1 : 0, 1);
    }

    // ---- "COST", "its FIGURE; of TOMS 100 more ..; of SPIES 200 plus their COST; -15 .. any with FIGURE 0"

    private static void costAndTossEnds() {
        int[][] figures = {{0, 3, -15}, {1, 3, 1}, {9, 3, 9}};
        int[] costs0 = {3, 3, 2, 8, 1, 16, 2, 0};
        int[] costs9 = {3, 12, 2, 8, 6, 16, 11, 0};
        int[] tosses1 = {1, 1, 101, -15, 1, -15, 203, -15};
        int[] tosses9 = {9, 9, 109, -15, 9, -15, 211, -15};
        PapersAreOnCats x = new PapersAreOnCats();
        for (int[] f : figures) {
            x.keep(0, 1, 0, f[0]);
            due("cost of a cat, figure " + f[0], x.cost(0), f[1]);
            due("toss of a cat, figure " + f[0], x.toss(0), f[2]);
        }
        for (int kind = 0; kind < 8; kind++) {
            x.keep(0, 1, kind, 0);
            due("cost of " + kind + ", figure 0", x.cost(0), costs0[kind]);
            due("toss of " + kind + ", figure 0", x.toss(0), -15);
            x.keep(0, 1, kind, 1);
            due("toss of " + kind + ", figure 1", x.toss(0), tosses1[kind]);
            x.keep(0, 1, kind, 9);
            due("cost of " + kind + ", figure 9", x.cost(0), costs9[kind]);
            due("toss of " + kind + ", figure 9", x.toss(0), tosses9[kind]);
        }
        for (int figure = 0; figure <= 9; figure++) {
            x.keep(0, 1, 4, figure);
            due("half of a mouser's, cut, " + figure, x.cost(0), (3 + figure) / 2);
        }
    }
}
