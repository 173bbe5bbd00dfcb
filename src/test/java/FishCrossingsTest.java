/** Promises 20 to 28. */
public final class FishCrossingsTest {
    private static final Check CHECK = new Check("FishCrossingsTest");

    private static void due(String call, long got, long want) {
        CHECK.due(call, got, want);
    }

    public static void main(String[] args) {
        putFish();
        together();
        all();
        deserted();
        meet();
        shave();
        bribe();
        busiest();
        nearest();
        CHECK.end();
    }

    private static void putFish() {
        PapersAreOnCats x = Check.land("c0005;");
        due("there already: place", x.putFish(0, 5, 1, 0), 0);
        due("there already: when", x.putFish(0, 5, 1, 1), 0);
        due("up: place", x.putFish(0, 9, 1, 0), 9);
        due("up: when", x.putFish(0, 9, 1, 1), 4);
        due("down: place", x.putFish(0, 3, 9, 0), 0);
        due("down: when", x.putFish(0, 3, 9, 1), 2);
        x = Check.land("c0405;");
        due("pace 2: place", x.putFish(0, 8, 1, 0), 8);
        due("pace 2: when", x.putFish(0, 8, 1, 1), 2);
        x = Check.land("c0005;f059;f035;");
        due("9 at most: place", x.putFish(0, 3, 9, 0), -4);
        due("9 at most: when", x.putFish(0, 3, 9, 1), -4);
        x = Check.land("c0005;f058;f038;");
        due("9 for 10: place", x.putFish(0, 3, 2, 0), 3);
        due("9 for 10: when", x.putFish(0, 3, 2, 1), 2);
        due("no fish are put", x.count(5), 16);
        due("putFish(1, ..)", x.putFish(1, 0, 1, 0), -1);
        due("putFish(-1, ..)", x.putFish(-1, 0, 1, 0), -1);
        due("putFish(0, 16, ..)", x.putFish(0, 16, 1, 0), -1);
        due("putFish(0, -1, ..)", x.putFish(0, -1, 1, 0), -1);
        due("putFish(0, 0, 0, 0)", x.putFish(0, 0, 0, 0), -1);
        due("putFish(0, 0, 10, 0)", x.putFish(0, 0, 10, 0), -1);
        due("putFish(0, 0, 1, 2)", x.putFish(0, 0, 1, 2), -1);
        due("putFish(0, 0, 1, -1)", x.putFish(0, 0, 1, -1), -1);
    }

    private static void dueTogether(String text, int n, int bits, int many, int when) {
        PapersAreOnCats x = Check.land(text);
        due("together(" + n + ", 0) in " + text, x.together(n, 0), bits);
        due("together(" + n + ", 1) in " + text, x.together(n, 1), many);
        due("together(" + n + ", 2) in " + text, x.together(n, 2), when);
    }

    private static void together() {
        dueTogether("c0007;c0007;c0006;f089;", 5, 3, 2, 1);
        dueTogether("c0007;c0006;f089;", 5, 1, 1, 1);
        dueTogether("c0007;c0006;c0006;f089;", 5, 6, 2, 2);
        dueTogether("c0007;c0006;c0006;f089;", 1, 1, 1, 1);
        dueTogether("c0007;c0006;c0006;f089;", 0, 0, 0, -4);
        dueTogether("c0007;c4007;f089;", 99, 3, 2, 1);
        dueTogether("c3007;f089;", 99, 0, 0, -4);
        // the crossing ahead of now does not count
        dueTogether("c0007;f089;h01;", 0, 0, 0, -4);
        PapersAreOnCats x = Check.land("c0007;");
        due("together(100, 0)", x.together(100, 0), -1);
        due("together(-1, 0)", x.together(-1, 0), -1);
        due("together(0, 3)", x.together(0, 3), -1);
        due("together(0, -1)", x.together(0, -1), -1);
    }

    private static void all() {
        due("one side only", Check.land("c0005;f092;m0;m1;m0;").all(), 2);
        due("both sides", Check.land("c4006;m0;m1;m1;m0;").all(), 4);
        due("one who has passed", Check.land("c4006;m0;m1;w00;h03;").all(), 1);
        due("whites", Check.land("c3007;m0;f089;").all(), 0);
        due("no men", Check.land("c4007;").all(), 0);
        due("hair that has grown", Check.land("c0005;h60;f089;m0;").all(), 1);
        due("by any cat", Check.land("c3005;c3006;c0007;f089;m0;").all(), 1);
        due("a cat that goes later", Check.land("c4006;c0909;f099;f002;m1;").all(), 1);
        PapersAreOnCats x = Check.land("c0005;f092;m0;");
        due("all()", x.all(), 1);
        due("nothing is written", x.cat(0, 4), 9);
    }

    private static void deserted() {
        PapersAreOnCats x = Check.land("c0005;f099;c3015;");
        due("deserted(0)", x.deserted(0), 0x7fdf);
        due("deserted(2)", x.deserted(2), 0x7f1f);
        due("deserted(4)", x.deserted(4), 0x7c1f);
        due("deserted(99)", x.deserted(99), 0x7c1f);
        due("deserted(100)", x.deserted(100), -1);
        due("deserted(-1)", x.deserted(-1), -1);
        due("deserted(99) without cats", new PapersAreOnCats().deserted(99), 0xffff);
    }

    private static void meet() {
        PapersAreOnCats x = Check.land("c2000;c3007;c3007;c3009;");
        due("meet(0, 1)", x.meet(0, 1), 4);
        due("meet(2, 0)", x.meet(2, 0), 4);
        due("meet(1, 2)", x.meet(1, 2), 0);
        due("meet(1, 3)", x.meet(1, 3), -4);
        due("meet(0, 0)", x.meet(0, 0), -1);
        due("meet(0, 4)", x.meet(0, 4), -1);
        due("meet(4, 0)", x.meet(4, 0), -1);
        due("meet(-1, 0)", x.meet(-1, 0), -1);
        due("meet(0, -1)", x.meet(0, -1), -1);
    }

    private static void shave() {
        PapersAreOnCats x = Check.land("c0007;m0;w00;h48;f081;");
        due("shave(0)", x.shave(0), -4);
        due("shave(1)", x.shave(1), 0);
        due("shave(99)", x.shave(99), 0);
        due("nothing is shaved", x.cat(0, 3), 48);
        due("shave(100)", x.shave(100), -1);
        due("shave(-1)", x.shave(-1), -1);
        due("of several the least", Check.land("c3007;c0007;c0007;m0;m0;w10;w21;h48;f089;").shave(1), 1);
        due("it passes without", Check.land("c0007;m0;w00;f089;").shave(1), -4);
        due("more than without", Check.land("c0007;c0007;m0;m0;w00;w11;h48;w11;f089;").shave(1), 0);
        due("without a name", Check.land("c0007;m0;h48;f089;").shave(1), -4);
        due("without cats", new PapersAreOnCats().shave(1), -4);
        x = Check.land("c7007;c7808;m0;w00;h48;f102;f082;f144;f005;");
        due("it crosses in 47 hours: shave(46)", x.shave(46), -4);
        due("it crosses in 47 hours: shave(47)", x.shave(47), 0);
        due("it crosses in 47 hours: write", x.write(0, 1), 47);
        x = Check.land("c0214;c7603;c7606;m1;w00;h48;f039;f058;f002;f149;");
        due("it crosses in 48 hours", x.crosses(0), 48);
        due("it crosses in 48 hours: shave(99)", x.shave(99), -4);
    }

    private static void bribe() {
        PapersAreOnCats x = Check.land("c0005;f093;");
        due("bribe(0, 2, 1): nearer", x.bribe(0, 2, 1), 3);
        due("bribe(0, 1, 1): the lesser place", x.bribe(0, 1, 1), 3);
        due("bribe(0, 0, 1): farther", x.bribe(0, 0, 1), 4);
        due("bribe(0, 5, 1): where it is", x.bribe(0, 5, 1), 3);
        due("bribe(0, 9, 1): where it goes", x.bribe(0, 9, 1), -4);
        due("bribe(0, 9, 99): where it goes", x.bribe(0, 9, 99), -4);
        due("bribe(0, 15, 1): the same way", x.bribe(0, 15, 1), -4);
        // it takes one of the three at 9, so that three at 15 are more then
        due("bribe(0, 15, 5): farther on", x.bribe(0, 15, 5), 3);
        due("bribe(0, 2, 0)", x.bribe(0, 2, 0), -4);
        due("no fish are put", x.count(5), 3);
        due("more than 9 can not be", Check.land("c0005;f099;").bribe(0, 0, 1), -4);
        due("one is enough", Check.land("c0005;f085;f025;").bribe(0, 8, 1), 1);
        due("nine are needed", Check.land("c0005;f098;").bribe(0, 0, 1), 9);
        due("fish are there already", Check.land("c0005;f099;f007;").bribe(0, 0, 1), -4);
        due("fish are there already: more", Check.land("c0005;f098;f007;").bribe(0, 0, 1), 2);
        due("bribe(1, 0, 0)", x.bribe(1, 0, 0), -1);
        due("bribe(-1, 0, 0)", x.bribe(-1, 0, 0), -1);
        due("bribe(0, 16, 0)", x.bribe(0, 16, 0), -1);
        due("bribe(0, -1, 0)", x.bribe(0, -1, 0), -1);
        due("bribe(0, 0, 100)", x.bribe(0, 0, 100), -1);
        due("bribe(0, 0, -1)", x.bribe(0, 0, -1), -1);
    }

    private static void dueBusiest(String text, int n, int place, int often) {
        PapersAreOnCats x = Check.land(text);
        due("busiest(" + n + ", 0) in " + text, x.busiest(n, 0), place);
        due("busiest(" + n + ", 1) in " + text, x.busiest(n, 1), often);
    }

    private static void busiest() {
        dueBusiest("c0005;f091;", 0, 0, 0);
        dueBusiest("c0005;f091;", 1, 6, 1);
        dueBusiest("c0005;f091;", 4, 6, 1);
        dueBusiest("c0005;f091;", 5, 9, 2);
        dueBusiest("c0005;f091;", 99, 9, 96);
        // two cats at one place are there twice in an hour
        dueBusiest("c3004;c3004;c3002;", 3, 4, 6);
        dueBusiest("c3004;c3002;", 3, 2, 3);
        dueBusiest("", 9, 0, 0);
        dueBusiest("c3001;", 3, 1, 3);
        dueBusiest("c3015;", 3, 15, 3);
        PapersAreOnCats x = Check.land("c0005;");
        due("busiest again: nothing is left of the call ahead", x.busiest(3, 1), 3);
        due("busiest once more", x.busiest(2, 1), 2);
        due("busiest(100, 0)", x.busiest(100, 0), -1);
        due("busiest(-1, 0)", x.busiest(-1, 0), -1);
        due("busiest(0, 2)", x.busiest(0, 2), -1);
        due("busiest(0, -1)", x.busiest(0, -1), -1);
    }

    private static void nearest() {
        String[] lands = {"c0005;c0010;", "c0010;c0005;", "c0000;c0008;c0007;", "c0000;c0009;c0007;", "c0000;",
            "c0015;", "c0003;c0011;", "c0003;c0012;"};
        int[] which = {0, 0, 1, 2, 0, 0, 1, 0};
        int[] far = {2, 2, 0, 0, 7, 7, 3, 4};
        for (int i = 0; i < lands.length; i++) {
            PapersAreOnCats x = Check.land(lands[i]);
            due("nearest(0) in " + lands[i], x.nearest(0), which[i]);
            due("nearest(1) in " + lands[i], x.nearest(1), far[i]);
        }
        PapersAreOnCats x = new PapersAreOnCats();
        due("nearest(0) of none", x.nearest(0), -4);
        due("nearest(1) of none", x.nearest(1), -4);
        due("nearest(2)", x.nearest(2), -1);
        due("nearest(-1)", x.nearest(-1), -1);
    }
}
