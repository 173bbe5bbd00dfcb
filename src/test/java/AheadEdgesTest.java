/** The terms' second part, sentence by sentence: what is answered at both ends of what is looked at. */
public final class AheadEdgesTest {
    /** Found by search: something is so behind 99 hours, and not behind 98. ModelTest looks at them, too. */
    static final String[] LANDS = {
        "c5401;c1809;c7207;f021;f104;f045;f084;f045;f021;f136;h11;",
        "c2115;c7305;f038;f029;f059;f132;h11;",
        "c4214;f053;f056;f106;f143;f015;f147;x055;h05;",
        "c5113;c7315;f104;f149;f038;f066;f121;f083;x031;h14;"};

    private static final Check CHECK = new Check("AheadEdgesTest");

    private static void due(String call, long got, long want) {
        CHECK.due(call, got, want);
    }

    public static void main(String[] args) {
        dayNoMatter();
        nothingChanges();
        zeroHours();
        lastHour();
        crosses();
        crossings();
        passes();
        first();
        write();
        good();
        putFish();
        together();
        all();
        deserted();
        meet();
        shave();
        bribe();
        busiest();
        nearest();
        fullHouse();
        CHECK.end();
    }

    // ---- "n hours on (0 .. 99; DAY no matter)"

    private static final String MANY = "c0407;c2305;c5512;c4001;c7709;m0;m1;m0;f089;f022;x113;w00;w11;w22;";

    private static String lookedAhead(PapersAreOnCats x) {
        StringBuilder all = new StringBuilder();
        for (int cat = 0; cat < 5; cat++) {
            all.append(x.catThen(cat, 99, 0)).append(' ').append(x.catThen(cat, 99, 1)).append(' ')
                .append(x.crosses(cat)).append(' ').append(x.crossings(cat, 99)).append(' ')
                .append(x.good(cat)).append(' ').append(x.putFish(cat, 15, 9, 0)).append(' ')
                .append(x.putFish(cat, 15, 9, 1)).append(' ').append(x.bribe(cat, 0, 9)).append(' ')
                .append(x.meet(cat, (cat + 1) % 5)).append(' ').append(x.dogs(cat, 1, 7, 3, 0)).append(' ')
                .append(x.dogs(cat, 1, 7, 3, 1)).append(' ').append(x.forged(5, cat)).append(' ')
                .append(x.whatIs(5, cat, 0)).append(' ').append(x.whatIs(5, cat, 1)).append(' ')
                .append(x.whatIs(5, cat, 2)).append(' ');
        }
        for (int man = 0; man < 3; man++) {
            all.append(x.passes(man)).append(' ').append(x.write(man, 0)).append(' ').append(x.write(man, 1)).append(' ');
        }
        all.append(x.then(99, 0)).append(' ').append(x.then(99, 1)).append(' ').append(x.first()).append(' ')
            .append(x.together(99, 0)).append(' ').append(x.together(99, 1)).append(' ').append(x.together(99, 2))
            .append(' ').append(x.all()).append(' ').append(x.deserted(99)).append(' ').append(x.shave(99)).append(' ')
            .append(x.busiest(99, 0)).append(' ').append(x.busiest(99, 1)).append(' ').append(x.nearest(0)).append(' ')
            .append(x.nearest(1)).append(' ').append(x.two(24)).append(' ').append(x.mean(0)).append(' ')
            .append(x.mean(1)).append(' ').append(x.judge(5)).append(' ').append(x.nights(20, 5, 0)).append(' ')
            .append(x.nights(20, 5, 1));
        return all.toString();
    }

    private static void dayNoMatter() {
        PapersAreOnCats early = new PapersAreOnCats();
        early.hours(15);
        PapersAreOnCats late = new PapersAreOnCats();
        late.row(0, 0, 100);
        for (int i = 0; i < 25; i++) {
            late.put(0, 4 * i, 'h');
            late.put(0, 4 * i + 1, '6');
            late.put(0, 4 * i + 2, '0');
            late.put(0, 4 * i + 3, ';');
        }
        for (int i = 0; i < 15; i++) {
            late.frontier(0);
        }
        for (int i = 0; i < 24; i++) {
            late.hours(60);
        }
        late.hours(51);
        due("the last hour: day", late.count(3), 999);
        due("the last hour: hour", late.count(2), 23);
        due("the same hour", early.count(2), 23);
        for (PapersAreOnCats x : new PapersAreOnCats[] {early, late}) {
            Check.tell(x, MANY);
            x.row(5, 1, 100);
        }
        due("the day is no matter", lookedAhead(early).equals(lookedAhead(late)) ? 1 : 0, 1);
        due("nor is it in mind for ever", late.hours(1), -3);
    }

    private static void nothingChanges() {
        PapersAreOnCats x = Check.land(MANY);
        x.row(5, 1, 3);
        x.image();
        String before = Check.told(x);
        lookedAhead(x);
        due("nothing changes by looking ahead", Check.told(x).equals(before) ? 1 : 0, 1);
        x = Check.land(MANY);
        x.row(5, 1, 3);
        x.image();
        String ahead = lookedAhead(x);
        due("nor the answers", lookedAhead(x).equals(ahead) ? 1 : 0, 1);
        x.restore();
        due("nor the image", Check.told(x).equals(before) ? 1 : 0, 1);
    }

    // ---- behind 0 hours all is as it is

    private static void zeroHours() {
        PapersAreOnCats x = Check.land(MANY + "h03;");
        for (int cat = 0; cat < 5; cat++) {
            due("catThen(.., 0, 0)", x.catThen(cat, 0, 0), x.cat(cat, 2));
            due("catThen(.., 0, 1)", x.catThen(cat, 0, 1), x.cat(cat, 3));
            due("crossings(.., 0)", x.crossings(cat, 0), 0);
            due("bribe(.., 0)", x.bribe(cat, 3, 0), -4);
        }
        due("then(0, 0)", x.then(0, 0), x.count(4));
        due("then(0, 1)", x.then(0, 1), x.count(5));
        due("shave(0)", x.shave(0), -4);
        due("together(0, 0)", x.together(0, 0), 0);
        due("together(0, 1)", x.together(0, 1), 0);
        due("together(0, 2)", x.together(0, 2), -4);
        due("busiest(0, 0)", x.busiest(0, 0), 0);
        due("busiest(0, 1)", x.busiest(0, 1), 0);
        int visited = 0;
        for (int cat = 0; cat < 5; cat++) {
            visited |= 1 << x.cat(cat, 2);
        }
        due("deserted(0)", x.deserted(0), 0xffff - visited);
    }

    /** A white one where it is, an old one with hair to 99, a kitten there and back. */
    private static void lastHour() {
        PapersAreOnCats x = Check.land("c3007;c7704;c4009;");
        due("catThen(0, 99, 0)", x.catThen(0, 99, 0), 7);
        due("catThen(0, 49, 1)", x.catThen(0, 49, 1), 98);
        due("catThen(0, 50, 1)", x.catThen(0, 50, 1), 99);
        due("catThen(1, 98, 1)", x.catThen(1, 98, 1), 98);
        due("catThen(1, 99, 1)", x.catThen(1, 99, 1), 99);
        // hours 8, 10, .. are even: 49 of the next 98, 50 of the next 99
        due("catThen(2, 98, 0)", x.catThen(2, 98, 0), 6);
        due("catThen(2, 99, 0)", x.catThen(2, 99, 0), 9);
        x = Check.land("c0007;f081;h01;");
        x.carries(0, 7);
        due("then(99, 1)", x.then(99, 1), 0);
    }

    // ---- "behind how many hours (1 .. 99) a CAT first has crossed; -4"

    private static void crosses() {
        due("in the first hour", Check.land("c0007;f089;").crosses(0), 1);
        due("back in the first hour", Check.land("c0008;f079;").crosses(0), 1);
        due("never, it is there", Check.land("c0008;f089;").crosses(0), -4);
        due("never, it goes to the frontier only", Check.land("c0000;f079;").crosses(0), -4);
        due("never, it comes to the frontier only", Check.land("c0015;f089;").crosses(0), -4);
        PapersAreOnCats x = Check.land("c0007;f089;h01;");
        due("that it has crossed does not count", x.crosses(0), -4);
        x = Check.land("c0007;");
        x.carries(0, 8);
        due("that it was carried does not count", x.crosses(0), -4);
    }

    // ---- "how often within n hours"

    private static void crossings() {
        PapersAreOnCats x = Check.land("c4007;");
        // it goes at each even hour, and crosses each time
        for (int n = 0; n <= 99; n++) {
            due("crossings(0, " + n + ")", x.crossings(0, n), (n + 1) / 2);
        }
    }

    // ---- "behind how many hours (0 .. 99) a MAN has PASSED first; -4"

    private static void passes() {
        PapersAreOnCats x = Check.land("c0007;m0;w00;f089;");
        due("behind one", x.passes(0), 1);
        x.hours(1);
        due("behind none: he has", x.passes(0), 0);
        due("never: no cat", Check.land("m0;").passes(0), -4);
        due("never: no name", Check.land("c0007;m0;f089;").passes(0), -4);
        due("the last hour that can be read", Check.land("c0007;m0;w00;h46;f089;").passes(0), 1);
        due("the first that can not", Check.land("c0007;m0;w00;h47;f089;").passes(0), -4);
    }

    // ---- "the MAN not PASSED now who has so first, of several the least; -4"

    private static void first() {
        due("nobody", new PapersAreOnCats().first(), -4);
        due("nobody on a cat", Check.land("c0007;m0;f089;").first(), -4);
        PapersAreOnCats x = Check.land("c0007;c0007;m0;m0;w00;w11;f089;");
        due("of several the least", x.first(), 0);
        x = Check.land("c0007;c0006;m0;m0;w00;w11;f089;h01;");
        due("not who has passed now", x.first(), 1);
        x.hours(1);
        due("all have passed", x.first(), -4);
        due("the first, not the least", Check.land("c0006;c0007;m0;m0;w00;w11;f089;").first(), 1);
    }

    // ---- "the CAT on which a MAN's NAME had best be written now (shaved) .. (within 99), of several the least"

    private static void write() {
        PapersAreOnCats x = Check.land("c0007;c0007;m0;f089;");
        due("of several the least", x.write(0, 0), 0);
        due("when", x.write(0, 1), 1);
        x = Check.land("c0006;c0007;m0;f089;");
        due("the soonest", x.write(0, 0), 1);
        due("the soonest, when", x.write(0, 1), 1);
        x = Check.land("c0007;c0006;c0005;m0;f089;");
        due("the soonest ahead of later ones", x.write(0, 0), 0);
        due("the soonest ahead of later ones, when", x.write(0, 1), 1);
        x = Check.land("c3000;c0005;c0007;c0006;m0;f089;");
        due("the soonest among later ones", x.write(0, 0), 2);
        due("the soonest among later ones, when", x.write(0, 1), 1);
        x = Check.land("c0007;h60;m0;f089;");
        due("it is shaved by that", x.write(0, 0), 0);
        due("it is not shaved really", x.cat(0, 3), 60);
        due("another one's name makes room", Check.land("c0007;m0;m0;w01;f089;").write(0, 0), 0);
        due("from the other side", Check.land("c0007;m1;f089;").write(0, 0), -4);
        due("no cats", Check.land("m0;").write(0, 1), -4);
    }

    // ---- "behind how many hours (1 .. 99) a CAT that is READABLE now is not any more first (99 ..); 0 it is not"

    private static void good() {
        for (int hair = 0; hair <= 60; hair++) {
            String text = "c0003;c5003;m1;w00;w10;" + (hair == 0 ? "" : "h" + hair / 10 + hair % 10 + ";");
            PapersAreOnCats x = Check.land(text);
            due("good, hair " + hair, x.good(0), Math.max(0, 48 - hair));
            due("good, a shell behind " + hair, x.good(1), 99);
        }
        for (int h = 0; h <= 30; h++) {
            PapersAreOnCats x = Check.land("c3003;m1;w00;" + (h == 0 ? "" : "h" + h / 10 + h % 10 + ";"));
            due("good, a white one behind " + h, x.good(0), Math.max(0, 24 - h));
        }
        due("a shell without a name", Check.land("c5003;").good(0), 0);
        due("without a name", Check.land("c0003;").good(0), 0);
    }

    // ---- "the PLACE for v (1 .. 9) FISH more now (9 at most are there) .. soonest (within 99), of several the least"

    private static void putFish() {
        PapersAreOnCats x = Check.land("c0007;");
        for (int place = 0; place < 16; place++) {
            for (int v = 1; v <= 9; v += 4) {
                int far = Math.abs(place - 7);
                due("when, " + v + " for " + place, x.putFish(0, place, v, 1), far);
                // downwards it comes by on its way to 0; where it is, it need not go
                due("where, " + v + " for " + place, x.putFish(0, place, v, 0), place <= 7 ? 0 : place);
            }
        }
        // the fish at 6 is nearer than that at 9, and is taken first, but for two at 9
        x = Check.land("c0007;f061;f091;");
        due("the soonest among later ones", x.putFish(0, 8, 1, 0), 9);
        due("the soonest among later ones, when", x.putFish(0, 8, 1, 1), 1);
        due("never, white", Check.land("c3007;").putFish(0, 8, 9, 0), -4);
        due("never, white, when", Check.land("c3007;").putFish(0, 8, 9, 1), -4);
        due("there, white", Check.land("c3007;").putFish(0, 7, 9, 0), 0);
        due("there, white, when", Check.land("c3007;").putFish(0, 7, 9, 1), 0);
        // nine upon one are nine: the cat goes for the nearer nine at 8 first, takes one, and then comes back
        due("nine upon one", Check.land("c0007;f089;f051;").putFish(0, 5, 9, 1), 4);
        due("nine upon none", Check.land("c0007;f089;").putFish(0, 5, 9, 1), 4);
        due("of several the least, though all are nine", Check.land("c0007;f089;").putFish(0, 5, 9, 0), 0);
        due("eight upon one are nine", Check.land("c0007;f098;f051;").putFish(0, 5, 8, 1), 2);
    }

    // ---- "the most CATS that cross in one of the next n hours (0 .. 99), of several such hours the first"

    private static void together() {
        PapersAreOnCats x = Check.land(LANDS[0]);
        due("together(98, 1)", x.together(98, 1), 1);
        due("together(98, 2)", x.together(98, 2), 5);
        due("together(99, 0)", x.together(99, 0), 5);
        due("together(99, 1)", x.together(99, 1), 2);
        due("together(99, 2)", x.together(99, 2), 99);
        x = Check.land("c0007;".repeat(6) + "f089;");
        due("all six: bits", x.together(1, 0), 63);
        due("all six: how many", x.together(1, 1), 6);
        due("all six: when", x.together(1, 2), 1);
        x = Check.land("c4007;");
        due("of several hours the first", x.together(99, 2), 1);
        due("of several hours the first: bits", x.together(99, 0), 1);
        x = Check.land("c0007;c1008;f089;x079;");
        due("to either side: bits", x.together(1, 0), 3);
        x = Check.land("c3007;");
        due("none: bits", x.together(99, 0), 0);
        due("none: how many", x.together(99, 1), 0);
        due("none: when", x.together(99, 2), -4);
    }

    // ---- "how many MEN not PASSED now have a CAT by which, written on now, each for himself .. within 99 hours"

    private static void all() {
        due("nobody", new PapersAreOnCats().all(), 0);
        due("no cats", Check.land("m0;m0;").all(), 0);
        due("six by one cat", Check.land("c0007;" + "m0;".repeat(6) + "f089;").all(), 6);
        due("who has passed is not told", Check.land("c4007;m0;w00;h01;").all(), 0);
        due("who has passed is not told, the others are", Check.land("c4007;m0;m1;m0;w00;h01;").all(), 2);
        due("in the 23rd hour", Check.land("c7000;f159;m0;").all(), 1);
    }

    // ---- "PLACES (bits) at which no CAT is behind 0 .. n hours"

    private static void deserted() {
        PapersAreOnCats x = Check.land(LANDS[1]);
        due("deserted(98)", x.deserted(98), 63491);
        due("deserted(99)", x.deserted(99), 61443);
        due("no cats", new PapersAreOnCats().deserted(0), 65535);
        due("no cats, 99", new PapersAreOnCats().deserted(99), 65535);
        due("where it was, too", Check.land("c0007;f089;").deserted(1), 65535 - 128 - 256);
        due("not over where it goes", Check.land("c0807;f109;").deserted(1), 65535 - 128 - 1024);
        due("both ends", Check.land("c3000;c3015;").deserted(99), 0x7ffe);
    }

    // ---- "behind how many hours (0 .. 99) two CATS are at one PLACE first; -4"

    private static void meet() {
        due("now", Check.land("c3005;c3005;").meet(0, 1), 0);
        due("in an hour", Check.land("c2005;c3006;").meet(0, 1), 1);
        due("in an hour, the other one", Check.land("c3006;c2005;").meet(0, 1), 1);
        due("never", Check.land("c3005;c3006;").meet(0, 1), -4);
        due("through each other they do not meet", Check.land("c4006;c4009;").meet(0, 1), -4);
    }

    // ---- "the CAT which, shaved now (HAIR 0, NAME stays), lets most have PASSED behind n hours, more than without"

    private static void shave() {
        String hairy = "c0007;c0007;m0;m0;w00;w11;h48;";
        due("of several the least", Check.land(hairy + "f089;").shave(1), 0);
        due("the only one among others", Check.land("c3000;c0007;c3000;m0;w10;h48;f089;").shave(1), 1);
        due("of the next ones", Check.land(hairy + "w09;f089;").shave(1), 1);
        due("not yet", Check.land(hairy + "f109;").shave(0), -4);
        due("as many as without", Check.land("c0007;m0;w00;f089;").shave(99), -4);
        due("a shell is ever readable", Check.land("c5007;m0;w00;h60;f089;").shave(99), -4);
        // one cat brings one man at most, who is on one side only: most is one more
        due("the name stays", Check.land("c0007;m0;m0;w01;h48;f089;").shave(1), 0);
        due("no name stays none", Check.land("c0007;m0;h48;f089;").shave(1), -4);
        due("no cats", new PapersAreOnCats().shave(0), -4);
    }

    // ---- "the least number of FISH (1 .. 9) put at a PLACE with which a told CAT is at another PLACE .. n hours"

    private static void bribe() {
        PapersAreOnCats x = Check.land(LANDS[3]);
        due("bribe(1, 5, 98)", x.bribe(1, 5, 98), -4);
        due("bribe(1, 5, 99)", x.bribe(1, 5, 99), 9);
        for (int there = 0; there <= 9; there++) {
            x = Check.land("c0007;f09" + there + ";");
            due("farther than " + there, x.bribe(0, 4, 1), there == 9 ? -4 : there == 0 ? 1 : there + 1);
            due("nearer than " + there, x.bribe(0, 6, 1), there == 0 ? 1 : there);
        }
        due("nine are put, nine are there at most", Check.land("c0007;f099;f041;").bribe(0, 4, 1), -4);
        due("where it is", Check.land("c0007;f092;").bribe(0, 7, 1), 2);
        due("white", Check.land("c3007;").bribe(0, 8, 99), -4);
    }

    // ---- "the PLACE at which CATS are most often behind 1 .. n hours, of several the least; how often"

    private static void busiest() {
        PapersAreOnCats x = Check.land(LANDS[2]);
        due("busiest(98, 0)", x.busiest(98, 0), 7);
        due("busiest(98, 1)", x.busiest(98, 1), 49);
        due("busiest(99, 0)", x.busiest(99, 0), 8);
        due("busiest(99, 1)", x.busiest(99, 1), 50);
        x = Check.land("c3003;".repeat(6));
        due("six for 99 hours: place", x.busiest(99, 0), 3);
        due("six for 99 hours", x.busiest(99, 1), 594);
        x = Check.land("c3015;");
        due("the last place", x.busiest(1, 0), 15);
        x = Check.land("c3015;c3000;");
        due("of several the least", x.busiest(1, 0), 0);
        x = Check.land("c0007;f089;");
        due("where it was does not count", x.busiest(1, 0), 8);
        due("where it was does not count: how often", x.busiest(1, 1), 1);
        due("nowhere: place", new PapersAreOnCats().busiest(99, 0), 0);
        due("nowhere", new PapersAreOnCats().busiest(99, 1), 0);
    }

    // ---- "the CAT (by PLACES to 7 or 8, the nearer one), of several the least; -4; how far"

    private static void nearest() {
        for (int place = 0; place < 16; place++) {
            PapersAreOnCats x = Check.land("c30" + place / 10 + place % 10 + ";");
            due("which, at " + place, x.nearest(0), 0);
            due("how far from " + place, x.nearest(1), place <= 7 ? 7 - place : place - 8);
        }
        due("of several the least", Check.land("c3000;c3015;").nearest(0), 0);
        due("as near from both sides", Check.land("c3008;c3007;").nearest(0), 0);
        due("the nearest ahead of farther ones", Check.land("c3007;c3000;").nearest(0), 0);
        due("the nearest ahead of farther ones, how far", Check.land("c3007;c3000;").nearest(1), 0);
        due("the nearest among farther ones", Check.land("c3004;c3009;c3000;").nearest(0), 1);
        due("the nearest among farther ones, how far", Check.land("c3004;c3009;c3000;").nearest(1), 1);
        due("the last of six", Check.land("c3000;".repeat(5) + "c3014;").nearest(0), 5);
        due("none", new PapersAreOnCats().nearest(0), -4);
        due("none: how far", new PapersAreOnCats().nearest(1), -4);
    }

    /** Six cats and six men, the sixth of each being the only one of which something is to be told. */
    private static void fullHouse() {
        String text = "c3000;".repeat(5) + "c0007;" + "m1;".repeat(5) + "m0;";
        PapersAreOnCats x = Check.land(text + "w55;h48;f089;");
        due("cats", x.count(0), 6);
        due("men", x.count(1), 6);
        due("shave", x.shave(1), 5);
        due("write", x.write(5, 0), 5);
        due("write, when", x.write(5, 1), 1);
        due("write: no cat of the six", x.write(0, 0), -4);
        due("all", x.all(), 1);
        due("passes", x.passes(5), -4);
        due("first", x.first(), -4);
        x.writes(5, 5);
        due("passes, shaved", x.passes(5), 1);
        due("first, shaved", x.first(), 5);
        due("then", x.then(1, 0), 32);
        due("shave, shaved", x.shave(1), -4);
        due("crosses", x.crosses(5), 1);
        due("crossings", x.crossings(5, 99), 1);
        due("good", x.good(5), 48);
        due("putFish", x.putFish(5, 8, 1, 0), 0);
        due("putFish, when", x.putFish(5, 8, 1, 1), 1);
        due("bribe", x.bribe(5, 6, 1), 9);
        due("together", x.together(99, 0), 32);
        due("deserted", x.deserted(1), 65535 - 1 - 128 - 256);
        due("meet", x.meet(5, 0), -4);
        due("meet, those before", x.meet(4, 3), 0);
        due("busiest", x.busiest(2, 0), 0);
        due("busiest, how often", x.busiest(2, 1), 10);
        due("nearest", x.nearest(0), 5);
        due("dogs", x.dogs(5, 1, 1, 3, 0), 2);
        due("dogs, below", x.dogs(5, 1, 1, 3, 1), 3);
        due("dogs for seven hours", x.dogs(5, 0, 7, 2, 1), 128);
        due("two", x.two(1), 0);
        due("mean", x.mean(0), 7);
        due("mean, below", x.mean(1), 6);
        Check.fill(x, 1, Check.BYTES, 0, 1);
        due("judge", x.judge(1), -4);
        Check.fill(x, 1, Check.BYTES, 7, 8);
        due("whatIs, starts", x.whatIs(1, 5, 2), 128);
        due("forged", x.forged(1, 5), -4);
        // seed 1 draws 6, 14, 1, 11, 11, 11: three white ones are on side 1, and the sixth goes to 8
        due("nights", x.nights(1, 1, 1), 4);
        due("hours", x.hours(1), 1);
        due("readable ones", x.count(6), 32);
        x.keep(0, 1, 0, 0);
        due("no room for cats", x.comes(0, 0), -2);
        due("no room for men", x.waits(0), -2);
    }
}
