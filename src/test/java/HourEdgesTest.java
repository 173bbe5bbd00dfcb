/** The terms' first part, sentence by sentence: each end of each number, and each "if" of an hour. */
public final class HourEdgesTest {
    private static final Check CHECK = new Check("HourEdgesTest");
    private static final int CAT = 0;
    private static final int MOUSER = 1;
    private static final int TOM = 2;
    private static final int WHITE = 3;
    private static final int KITTEN = 4;
    private static final int SHELL = 5;
    private static final int SPY = 6;
    private static final int OLD = 7;

    private static void due(String call, long got, long want) {
        CHECK.due(call, got, want);
    }

    public static void main(String[] args) {
        sides();
        atFirst();
        goalOfCat();
        goalOfMouser();
        goalOfTom();
        goalOfWhite();
        goalOfKitten();
        goalOfShell();
        paces();
        noFarther();
        fishLess();
        hair();
        readable();
        whoPasses();
        whoPassesNot();
        hoursAndDays();
        asAllStandThen();
        CHECK.end();
    }

    private static PapersAreOnCats one(int kind, int figure, int place) {
        PapersAreOnCats x = new PapersAreOnCats();
        add(x, kind, figure, place);
        return x;
    }

    private static void add(PapersAreOnCats x, int kind, int figure, int place) {
        x.keep(7, 1, kind, figure);
        x.comes(7, place);
    }

    /** Hours go by until it is that HOUR; the cat stands there and the fish are as before then. */
    private static void till(PapersAreOnCats x, int hour) {
        int n = (hour - x.count(2) + 24) % 24;
        if (n > 0) {
            x.hours(n);
        }
    }

    // ---- "the frontier is between 7 and 8 (SIDE 0 up to 7, SIDE 1 from 8 on)"

    private static void sides() {
        for (int from = 0; from < 16; from++) {
            for (int to = 0; to < 16; to++) {
                PapersAreOnCats x = one(SPY, 9, from);
                add(x, WHITE, 0, to);
                boolean reached = Math.abs(to - from) <= 8;
                int there = reached ? to : from + (to > from ? 8 : -8);
                boolean crossed = from <= 7 != there <= 7;
                due("from " + from + " to " + to, x.catThen(0, 1, 0), there);
                due("crossings from " + from + " to " + there, x.crossings(0, 1), crossed ? 1 : 0);
            }
        }
        for (int place = 0; place < 16; place++) {
            PapersAreOnCats x = one(WHITE, 0, place);
            due("on side 1 at " + place, x.dogs(0, 1, 0, 2, 0), place >= 8 ? 1 : 0);
            due("on side 0 at " + place, x.dogs(0, 0, 0, 2, 0), place <= 7 ? 1 : 0);
            due("to the frontier from " + place, x.nearest(1), place <= 7 ? 7 - place : place - 8);
        }
    }

    // ---- "0 at first", "none at first", "not at first"

    private static void atFirst() {
        PapersAreOnCats x = Check.land("h30;");
        add(x, TOM, 9, 15);
        x.waits(1);
        due("hair at first", x.cat(0, 3), 0);
        due("name at first", x.cat(0, 4), 9);
        due("at", x.cat(0, 2), 15);
        due("passed at first", x.man(0, 1), 0);
        due("side at first", x.man(0, 0), 1);
        due("not readable at first", x.cat(0, 7), 0);
        // where another one has been and is no more
        x = new PapersAreOnCats();
        x.image();
        Check.tell(x, "c0007;m0;w00;f089;h10;");
        due("he has passed", x.count(4), 1);
        x.restore();
        add(x, CAT, 0, 3);
        x.waits(0);
        due("hair at first where another one has been", x.cat(0, 3), 0);
        due("name at first where another one has been", x.cat(0, 4), 9);
        due("passed at first where another one has been", x.man(0, 1), 0);
        due("side at first where another one has been", x.man(0, 0), 0);
    }

    // ---- "CAT the PLACE with most FISH, of several the nearest, of several the least (no FISH: where it is)"

    private static void goalOfCat() {
        due("no fish", one(CAT, 0, 0).cat(0, 5), 0);
        due("no fish, the last place", one(CAT, 0, 15).cat(0, 5), 15);
        due("mice are none", Check.land("c0005;x089;").cat(0, 5), 5);
        due("one fish at the far end", Check.land("c0000;f151;").cat(0, 5), 15);
        due("one fish at the near end", Check.land("c0015;f001;").cat(0, 5), 0);
        due("one fish where it is", Check.land("c0009;f091;").cat(0, 5), 9);
        due("most, though far", Check.land("c0005;f058;f159;").cat(0, 5), 15);
        due("as many as where it is", Check.land("c0005;f053;f043;f063;").cat(0, 5), 5);
        due("of several the nearest", Check.land("c0005;f013;f083;").cat(0, 5), 8);
        due("of several as near the least", Check.land("c0005;f033;f073;").cat(0, 5), 3);
        for (int at = 0; at < 16; at++) {
            PapersAreOnCats x = one(CAT, 0, at);
            for (int place = 0; place < 16; place++) {
                if (place != at) {
                    x.lays(place, 0, 9);
                }
            }
            due("all full but where it is, " + at, x.cat(0, 5), at == 0 ? 1 : at - 1);
            x.lays(at, 0, 9);
            due("all full, " + at, x.cat(0, 5), at);
        }
    }

    // ---- "MOUSER likewise by MICE"

    private static void goalOfMouser() {
        due("no mice", Check.land("c1005;f089;").cat(0, 5), 5);
        due("one mouse", Check.land("c1000;f089;x151;").cat(0, 5), 15);
        due("of several the nearest", Check.land("c1005;x013;x083;").cat(0, 5), 8);
        due("of several as near the least", Check.land("c1005;x033;x073;").cat(0, 5), 3);
        due("as many as where it is", Check.land("c1005;x053;x043;").cat(0, 5), 5);
        PapersAreOnCats x = Check.land("c1005;x069;h01;");
        due("mice do not get less", x.place(6, 1), 9);
    }

    // ---- "TOM the PLACE of the nearest other cat, of several the least of its number (none: where it is)"

    private static void goalOfTom() {
        for (int kind : new int[] {TOM, SPY}) {
            due("none", one(kind, 9, 6).cat(0, 5), 6);
            due("one, far", Check.land("c" + kind + "000;c3015;").cat(0, 5), 15);
            due("one where it is", Check.land("c" + kind + "005;c3005;c3004;").cat(0, 5), 5);
            due("of two as near the first", Check.land("c" + kind + "005;c3007;c3003;").cat(0, 5), 7);
            due("of two as near the first, lower", Check.land("c" + kind + "005;c3003;c3007;").cat(0, 5), 3);
            due("the nearer one, though later", Check.land("c" + kind + "005;c3015;c3000;").cat(0, 5), 0);
            PapersAreOnCats x = Check.land("c3003;c3007;c" + kind + "005;");
            due("as the last one", x.cat(2, 5), 3);
            x = Check.land("c3003;c3007;c3003;c3007;c3005;c" + kind + "015;");
            due("as the sixth one", x.cat(5, 5), 7);
        }
    }

    // ---- "WHITE where it is"

    private static void goalOfWhite() {
        PapersAreOnCats x = Check.land("c3905;f069;x069;c0006;");
        for (int h = 0; h < 24; h++) {
            due("at hour " + x.count(2), x.cat(0, 5), 5);
            x.hours(1);
        }
        due("where it was", x.cat(0, 2), 5);
    }

    // ---- "KITTEN its own PLACE, at even HOURS 15 less that"

    private static void goalOfKitten() {
        for (int hour = 0; hour < 24; hour++) {
            for (int place = 0; place < 16; place++) {
                PapersAreOnCats x = Check.land("f079;x079;");
                till(x, hour);
                add(x, KITTEN, 0, place);
                due("at hour " + hour + ", at " + place, x.cat(0, 5), hour % 2 == 0 ? 15 - place : place);
            }
        }
    }

    // ---- "SHELL as a WHITE, from 20 to 4 as a CAT"

    private static void goalOfShell() {
        for (int hour = 0; hour < 24; hour++) {
            PapersAreOnCats x = Check.land("f159;x009;");
            till(x, hour);
            add(x, SHELL, 0, 5);
            boolean night = hour >= 20 || hour <= 4;
            due("a shell's goal at " + hour, x.cat(0, 5), night ? 15 : 5);
            due("a shell behind an hour at " + hour, x.catThen(0, 1, 0), night ? 6 : 5);
            x.lays(15, 0, 0);
            due("without fish at " + hour, x.cat(0, 5), 5);
        }
    }

    // ---- "PACE (PLACES in an HOUR)"

    private static void paces() {
        for (int hour = 0; hour < 24; hour++) {
            for (int figure = 0; figure <= 9; figure++) {
                int cat = figure < 4 ? 1 : figure < 8 ? 2 : 3;
                int[] paces = {cat, cat, cat + 1, cat, 3, cat, 2 * (cat + 1), hour % 3 == 0 ? 1 : 0};
                PapersAreOnCats x = new PapersAreOnCats();
                till(x, hour);
                for (int kind = 0; kind < 6; kind++) {
                    add(x, kind, figure, 0);
                    due("pace of " + kind + figure + " at " + hour, x.cat(kind, 6), paces[kind]);
                }
                x = new PapersAreOnCats();
                till(x, hour);
                add(x, SPY, figure, 0);
                add(x, OLD, figure, 0);
                due("pace of a spy, " + figure + " at " + hour, x.cat(0, 6), paces[SPY]);
                due("pace of an old one, " + figure + " at " + hour, x.cat(1, 6), paces[OLD]);
            }
        }
    }

    // ---- "each goes towards its GOAL by its PACE, no farther"

    private static void noFarther() {
        for (int far = 0; far <= 7; far++) {
            PapersAreOnCats x = Check.land("c0907;f" + (7 + far) / 10 + (7 + far) % 10 + "9;h01;");
            due("up by " + far, x.cat(0, 2), 7 + Math.min(3, far));
            x = Check.land("c0908;f0" + (8 - far) + "9;h01;");
            due("down by " + far, x.cat(0, 2), 8 - Math.min(3, far));
        }
        // a kitten goes 15 less its place, by 3 at most, and no farther
        int[] behind = {3, 4, 5, 6, 7, 8, 9, 8, 7, 6, 7, 8, 9, 10, 11, 12};
        for (int place = 0; place < 16; place++) {
            due("a kitten from " + place, one(KITTEN, 0, place).catThen(0, 1, 0), behind[place]);
        }
        PapersAreOnCats x = Check.land("c0900;f159;h60;");
        due("the last place is the end", x.cat(0, 2), 15);
        x = Check.land("c0915;f009;h60;");
        due("the first place is the end", x.cat(0, 2), 0);
    }

    // ---- "if its PLACE is another one then, there is 1 FISH less where it is, if there is any"

    private static void fishLess() {
        PapersAreOnCats x = Check.land("c0005;f061;h01;");
        due("of one none is left", x.place(6, 0), 0);
        x.hours(1);
        due("of none none", x.place(6, 0), 0);
        x = Check.land("c0005;f069;h01;");
        due("of nine eight", x.place(6, 0), 8);
        x.hours(9);
        due("none less where it stays", x.place(6, 0), 8);
        x = Check.land("c0905;f051;f089;f063;f073;h01;");
        due("none less where it was", x.place(5, 0), 1);
        due("none less on its way", x.place(6, 0) + x.place(7, 0), 6);
        due("one less where it is", x.place(8, 0), 8);
        // a goal that it can not go to for want of pace: an old one at 8
        x = Check.land("c7005;f059;f069;h01;");
        due("of pace 0, none less", x.place(5, 0), 9);
        x = Check.land("c7005;f051;f069;h02;");
        due("an old one goes at 9", x.cat(0, 2), 6);
        due("an old one takes one", x.place(6, 0), 8);
        x = Check.land("c3005;f059;h60;");
        due("a white one takes none", x.place(5, 0), 9);
        // two that come to one place take two, and of one fish one
        x = Check.land("c0005;c0007;f069;h01;");
        due("two take two", x.place(6, 0), 7);
        x = Check.land("c0005;c0007;f061;h01;");
        due("two take the one that there is", x.place(6, 0), 0);
        due("the second has no goal then", x.cat(1, 2), 7);
        // they that are carried take none
        x = Check.land("c0005;f069;");
        x.carries(0, 6);
        due("a carried one takes none", x.place(6, 0), 9);
        // mice and toms and spies and kittens and shells take fish, too
        x = Check.land("c2005;c3006;f065;h01;");
        due("a tom takes one", x.place(6, 0), 4);
        x = Check.land("c6003;c3007;f075;h01;");
        due("a spy takes one", x.place(7, 0), 4);
        x = Check.land("h12;c5005;f065;h01;");
        due("a shell takes one", x.place(6, 0), 4);
    }

    // ---- "HAIR is more by what it GROWS (99 at most)"

    private static void hair() {
        for (int kind = 0; kind < 8; kind++) {
            int grows = kind == WHITE ? 2 : kind == SHELL ? 0 : 1;
            PapersAreOnCats x = one(kind, 0, 5);
            due("hair of " + kind, x.cat(0, 3), 0);
            for (int h = 1; h <= 110; h++) {
                x.hours(1);
                due("hair of " + kind + " behind " + h, x.cat(0, 3), Math.min(99, h * grows));
            }
            x.writes(0, 9);
            due("shaved, " + kind, x.cat(0, 3), 0);
        }
    }

    // ---- "READABLE: HAIR below 48 and a NAME; SHELLS ever, if they have a NAME"

    private static void readable() {
        for (int kind = 0; kind < 8; kind++) {
            PapersAreOnCats x = one(kind, 0, 5);
            x.waits(1);
            due("without a name, " + kind, x.cat(0, 7), 0);
            x.writes(0, 0);
            for (int h = 0; h <= 110; h++) {
                int hair = x.cat(0, 3);
                due("hair " + hair + " of " + kind, x.cat(0, 7), kind == SHELL || hair < 48 ? 1 : 0);
                due("counted, hair " + hair + " of " + kind, x.count(6), kind == SHELL || hair < 48 ? 1 : 0);
                x.hours(1);
            }
            x.writes(0, 9);
            due("without a name again, " + kind, x.cat(0, 7), 0);
            due("counted without a name again, " + kind, x.count(6), 0);
        }
    }

    // ---- "the MAN whose NAME it has, if he is on the SIDE it came from and not PASSED, has PASSED"

    private static void whoPasses() {
        for (int man = 0; man < 6; man++) {
            PapersAreOnCats x = Check.land("c0007;" + "m0;".repeat(6) + "w0" + man + ";f089;h01;");
            due("man " + man, x.count(4), 1 << man);
            for (int other = 0; other < 6; other++) {
                due("side of " + other, x.man(other, 0), other == man ? 1 : 0);
                due("passed, " + other, x.man(other, 1), other == man ? 1 : 0);
            }
        }
        for (int cat = 0; cat < 6; cat++) {
            PapersAreOnCats x = Check.land("c3000;".repeat(cat) + "c0008;m1;w" + cat + "0;f079;h01;");
            due("by cat " + cat, x.count(4), 1);
        }
        PapersAreOnCats x = Check.land("c0007;".repeat(6) + "m0;".repeat(6) + "w00;w11;w22;w33;w44;w55;f089;");
        due("six in an hour", x.hours(1), 6);
        due("six bits", x.count(4), 63);
        // hair grows ahead of the look at it
        due("hair 46 grows to 47", Check.land("c0007;m0;w00;h46;f089;h01;").count(4), 1);
        due("hair 47 grows to 48", Check.land("c0007;m0;w00;h47;f089;h01;").count(4), 0);
        x = Check.land("c5007;m0;w00;h60;f089;");
        till(x, 21);
        due("a shell after days", x.count(4), 1);
    }

    private static void whoPassesNot() {
        PapersAreOnCats x = Check.land("c0007;m1;w00;f089;h01;");
        due("he is on the other side", x.count(4), 0);
        due("he stays there", x.man(0, 0), 1);
        x = Check.land("c0007;m0;w00;w09;f089;h01;");
        due("the name is off", x.count(4), 0);
        x = Check.land("c0007;m0;m0;w00;w01;f089;h01;");
        due("the later name", x.count(4), 2);
        x = Check.land("c0006;m0;w00;f079;h05;");
        due("it does not cross", x.count(4), 0);
        x = Check.land("c0007;m0;w00;f089;");
        x.carries(0, 8);
        x.hours(1);
        due("carried over", x.count(4), 0);
        // he has passed by the first; the second comes back in the same hour and does not bring him
        x = Check.land("c2007;c2008;m0;w00;w10;h01;");
        due("over", x.cat(0, 2), 8);
        due("passed", x.count(4), 1);
        x = Check.land("c0007;c1008;m0;w00;w10;f089;x079;h01;");
        due("the first over", x.cat(0, 2), 8);
        due("the second back", x.cat(1, 2), 7);
        due("he has passed once", x.count(4), 1);
        due("he stays over there", x.man(0, 0), 1);
        // a man who has passed is not brought back later either
        x.lays(7, 0, 9);
        x.lays(8, 0, 0);
        x.hours(1);
        due("the first back", x.cat(0, 2), 7);
        due("he stays over there, later", x.man(0, 0), 1);
        due("passed still", x.man(0, 1), 1);
    }

    // ---- "Behind all that HOUR is 1 more (behind 23: 0, DAY 1 more)"

    private static void hoursAndDays() {
        PapersAreOnCats x = new PapersAreOnCats();
        for (int h = 0; h < 100; h++) {
            due("hour behind " + h, x.count(2), (8 + h) % 24);
            due("day behind " + h, x.count(3), (8 + h) / 24);
            due("day told by the image behind " + h, x.image(), (8 + h) / 24);
            x.hours(1);
        }
        x = new PapersAreOnCats();
        x.hours(15);
        due("23", x.count(2), 23);
        due("hours(25) over two midnights", x.hours(25), 0);
        due("0", x.count(2), 0);
        due("two days", x.count(3), 2);
    }

    // ---- "CATS by numbers, each goes towards its GOAL (as all stand then, itself too)"

    private static void asAllStandThen() {
        PapersAreOnCats x = Check.land("c2000;c2004;c2008;h01;");
        // 0 goes to 2; 1 has 0 at 2 nearer than 2 at 8, and reaches it; 2 goes towards 2, to 6
        due("the first", x.cat(0, 2), 2);
        due("the second", x.cat(1, 2), 2);
        due("the third", x.cat(2, 2), 6);
        x = Check.land("c2008;c2004;c2000;h01;");
        due("the first, the other way", x.cat(0, 2), 6);
        due("the second, the other way", x.cat(1, 2), 6);
        due("the third, the other way", x.cat(2, 2), 2);
        x = Check.land("c0004;c0006;f051;f101;h01;");
        due("the fish is gone when the second goes", x.cat(1, 2), 7);
        x = Check.land("c0004;c0006;f052;f101;h01;");
        due("as many are left then", x.cat(1, 2), 5);
        due("the last one is gone", x.place(5, 0), 0);
    }
}
