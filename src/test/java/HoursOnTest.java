/** Promises 12 to 19. */
public final class HoursOnTest {
    private static final Check CHECK = new Check("HoursOnTest");

    private static void due(String call, long got, long want) {
        CHECK.due(call, got, want);
    }

    public static void main(String[] args) {
        catThen();
        then();
        crosses();
        crossings();
        passes();
        first();
        write();
        good();
        CHECK.end();
    }

    private static void catThen() {
        PapersAreOnCats x = Check.land("c0005;f092;c3002;c5003;");
        int[] places = {5, 6, 7, 8, 9, 9, 9};
        for (int n = 0; n < places.length; n++) {
            due("catThen(0, " + n + ", 0)", x.catThen(0, n, 0), places[n]);
            due("catThen(0, " + n + ", 1)", x.catThen(0, n, 1), n);
            due("catThen(1, " + n + ", 1)", x.catThen(1, n, 1), 2 * n);
        }
        due("catThen(0, 99, 0)", x.catThen(0, 99, 0), 9);
        due("catThen(0, 98, 1)", x.catThen(0, 98, 1), 98);
        due("catThen(0, 99, 1)", x.catThen(0, 99, 1), 99);
        due("catThen(1, 99, 1)", x.catThen(1, 99, 1), 99);
        due("catThen(2, 99, 1)", x.catThen(2, 99, 1), 0);
        // the shell goes for the fish at night
        due("catThen(2, 12, 0)", x.catThen(2, 12, 0), 3);
        due("catThen(2, 14, 0)", x.catThen(2, 14, 0), 5);
        due("catThen(0, 100, 0)", x.catThen(0, 100, 0), -1);
        due("catThen(0, -1, 0)", x.catThen(0, -1, 0), -1);
        due("catThen(0, 0, 2)", x.catThen(0, 0, 2), -1);
        due("catThen(0, 0, -1)", x.catThen(0, 0, -1), -1);
        due("catThen(3, 0, 0)", x.catThen(3, 0, 0), -1);
        due("catThen(-1, 0, 0)", x.catThen(-1, 0, 0), -1);
        due("nothing has gone by", x.cat(0, 2), 5);
        due("no fish are gone", x.place(9, 0), 2);
        due("no hour has gone by", x.count(2), 8);
    }

    private static void then() {
        PapersAreOnCats x = Check.land("c0005;c0004;m1;m0;m0;w02;w11;f097;");
        int[] passed = {0, 0, 0, 4, 6, 6};
        int[] fish = {7, 7, 7, 7, 6, 5};
        for (int n = 0; n < passed.length; n++) {
            due("then(" + n + ", 0)", x.then(n, 0), passed[n]);
            due("then(" + n + ", 1)", x.then(n, 1), fish[n]);
        }
        due("then(99, 0)", x.then(99, 0), 6);
        due("then(99, 1)", x.then(99, 1), 5);
        due("then(100, 0)", x.then(100, 0), -1);
        due("then(-1, 0)", x.then(-1, 0), -1);
        due("then(0, 2)", x.then(0, 2), -1);
        due("then(0, -1)", x.then(0, -1), -1);
        due("nobody has passed", x.count(4), 0);
        x.hours(3);
        due("then(0, 0) behind three hours", x.then(0, 0), 4);
    }

    private static void crosses() {
        PapersAreOnCats x = Check.land("c0005;f092;c4007;c3008;");
        due("crosses(0)", x.crosses(0), 3);
        due("crosses(1)", x.crosses(1), 1);
        due("crosses(2)", x.crosses(2), -4);
        due("crosses(3)", x.crosses(3), -1);
        due("crosses(-1)", x.crosses(-1), -1);
        x.hours(3);
        due("crossed already", x.crosses(0), -4);
        x = Check.land("c0012;f001;");
        due("crosses from side 1", x.crosses(0), 5);
        // the kitten takes a fish at 9 every fourth hour; the other cat goes when 1 is left
        x = Check.land("c4006;c0909;f099;f002;");
        due("crosses when the fish are gone", x.crosses(1), 29);
    }

    private static void crossings() {
        PapersAreOnCats x = Check.land("c4009;c0005;f092;");
        int[] often = {0, 1, 1, 2, 2, 3};
        for (int n = 0; n < often.length; n++) {
            due("crossings(0, " + n + ")", x.crossings(0, n), often[n]);
        }
        due("crossings(0, 98)", x.crossings(0, 98), 49);
        due("crossings(0, 99)", x.crossings(0, 99), 50);
        due("crossings(1, 2)", x.crossings(1, 2), 0);
        due("crossings(1, 99)", x.crossings(1, 99), 1);
        due("crossings(0, 100)", x.crossings(0, 100), -1);
        due("crossings(0, -1)", x.crossings(0, -1), -1);
        due("crossings(2, 0)", x.crossings(2, 0), -1);
        due("crossings(-1, 0)", x.crossings(-1, 0), -1);
    }

    private static void passes() {
        PapersAreOnCats x = Check.land("c0005;c0015;m0;m1;m1;m0;w00;w11;f089;");
        due("passes(0)", x.passes(0), 3);
        due("passes(1): it never crosses", x.passes(1), -4);
        due("passes(2): on no cat", x.passes(2), -4);
        due("passes(4)", x.passes(4), -1);
        due("passes(-1)", x.passes(-1), -1);
        x.hours(3);
        due("passes(0): has passed", x.passes(0), 0);
        x = Check.land("c0005;m0;w00;h46;f089;");
        due("hair too long by then", x.passes(0), -4);
        x = Check.land("c0005;m0;w00;h44;f089;");
        due("hair just short enough", x.passes(0), 3);
        x = Check.land("c0005;m0;w00;h45;f089;");
        due("hair just too long", x.passes(0), -4);
    }

    private static void first() {
        PapersAreOnCats x = Check.land("c0007;c0006;m0;m0;m1;w01;w10;f089;");
        due("first()", x.first(), 1);
        x.hours(1);
        due("first() behind an hour", x.first(), 0);
        x.hours(1);
        due("first() behind two hours", x.first(), -4);
        x = Check.land("c0007;c0007;m0;m0;w01;w10;f089;");
        due("first(): of several the least", x.first(), 0);
        due("first() of nobody", new PapersAreOnCats().first(), -4);
    }

    private static void write() {
        PapersAreOnCats x = Check.land("c0005;c0007;c0007;c0008;m0;m1;f098;h48;f019;");
        // all stand at 9 with long hair and go to 1 now
        due("write(1, 0)", x.write(1, 0), 0);
        due("write(1, 1)", x.write(1, 1), 2);
        due("write(0, 0)", x.write(0, 0), -4);
        due("write(0, 1)", x.write(0, 1), -4);
        due("write(2, 0)", x.write(2, 0), -1);
        due("write(-1, 0)", x.write(-1, 0), -1);
        due("write(0, 2)", x.write(0, 2), -1);
        due("write(0, -1)", x.write(0, -1), -1);
        due("nothing is written", x.cat(0, 4), 9);
        due("nothing is shaved", x.cat(0, 3), 48);
        x = Check.land("c0005;c0006;c0007;c0007;m0;f099;");
        due("the one that crosses soonest, the least", x.write(0, 0), 2);
        due("when it crosses", x.write(0, 1), 1);
        x.writes(3, 0);
        due("he passes by another one just as soon", x.write(0, 0), 0);
        x.hours(1);
        due("write: he has passed", x.write(0, 0), -3);
        due("write: he has passed, when", x.write(0, 1), -3);
        due("write: -1 ahead of -3", x.write(0, 2), -1);
        x = Check.land("c3007;m0;f099;");
        due("a white one", x.write(0, 0), -4);
        x = Check.land("m0;");
        due("no cat", x.write(0, 0), -4);
    }

    private static void good() {
        int[] good = {48, 48, 48, 24, 48, 99, 48, 48};
        for (int kind = 0; kind < 8; kind++) {
            PapersAreOnCats x = Check.land("c" + kind + "000;m1;");
            due("good without a name, kind " + kind, x.good(0), 0);
            x.writes(0, 0);
            due("good, kind " + kind, x.good(0), good[kind]);
            x.hours(5);
            due("good behind 5 hours, kind " + kind, x.good(0),
                kind == 5 ? 99 : kind == 3 ? 19 : good[kind] - 5);
            x.hours(43);
            due("good behind 48 hours, kind " + kind, x.good(0), kind == 5 ? 99 : 0);
        }
        PapersAreOnCats x = Check.land("c0000;m0;w00;h47;");
        due("good(0) of one hour", x.good(0), 1);
        due("good(1)", x.good(1), -1);
        due("good(-1)", x.good(-1), -1);
    }
}
