/** Promises 1 to 11, and what an hour does. */
public final class FrontierToldTest {
    private static final Check CHECK = new Check("FrontierToldTest");

    private static void due(String call, long got, long want) {
        CHECK.due(call, got, want);
    }

    public static void main(String[] args) {
        newObject();
        textThatComes();
        faultsOfForm();
        faultsOfSense();
        textRefused();
        lastDay();
        catTold();
        goals();
        paces();
        shellByHours();
        manAndPlaceTold();
        comesAndWaits();
        writesLaysCarries();
        catsGoByNumbers();
        fishGetLess();
        hairGrows();
        menPass();
        hoursTold();
        CHECK.end();
    }

    private static void newObject() {
        PapersAreOnCats x = new PapersAreOnCats();
        int[] counts = {0, 0, 8, 0, 0, 0, 0};
        for (int what = 0; what < counts.length; what++) {
            due("new: count(" + what + ")", x.count(what), counts[what]);
        }
        for (int place = 0; place < 16; place++) {
            for (int what = 0; what < 3; what++) {
                due("new: place", x.place(place, what), 0);
            }
        }
        for (int d = 0; d < 8; d++) {
            due("new: frontier", x.frontier(d), -11);
        }
        due("new: cat", x.cat(0, 0), -1);
        due("new: man", x.man(0, 0), -1);
        due("new: restore", x.restore(), -3);
    }

    private static void textThatComes() {
        PapersAreOnCats x = new PapersAreOnCats();
        due("text", Check.tell(x, "c4703;m1;f129;x048;w00;h05;"), 6);
        due("text: kind", x.cat(0, 0), 4);
        due("text: figure", x.cat(0, 1), 7);
        due("text: name", x.cat(0, 4), 0);
        due("text: hair", x.cat(0, 3), 5);
        due("text: fish", x.place(12, 0), 9);
        due("text: mice", x.place(4, 1), 8);
        due("text: hour", x.count(2), 13);
        // the kitten goes 3 to 6 at 8, to 9 at 10, to 6 at 12
        due("text: at", x.cat(0, 2), 6);
        due("text: the man passed by it", x.count(4), 1);
        due("text again: it stays on its shelf", x.frontier(0), 6);
        due("text again: cats", x.count(0), 2);
        due("text again: men", x.count(1), 2);
        // w00 of the second time shaves the first cat again
        due("text again: hair", x.cat(0, 3), 5);
        due("text again: hair of the second", x.cat(1, 3), 5);
        due("text again: name of the second", x.cat(1, 4), 9);

        x = new PapersAreOnCats();
        due("c00.. at 15", Check.tell(x, "c7915;"), 1);
        due("c: at", x.cat(0, 2), 15);
        due("c: figure", x.cat(0, 1), 9);
        due("w shaves, 9 none", Check.tell(x, "h03;m0;w00;h02;w09;"), 5);
        due("w: name", x.cat(0, 4), 9);
        due("w: hair", x.cat(0, 3), 0);
        due("h60", Check.tell(x, "h60;"), 1);
        due("h60: day", x.count(3), 3);
        due("f, x become", Check.tell(x, "f003;f001;x152;x150;"), 4);
        due("f", x.place(0, 0), 1);
        due("x", x.place(15, 1), 0);
    }

    private static void faultsOfForm() {
        String[] texts = {"", "m", "m0", "m0;c", "q", "ma;", "m0:", "m00;", "c000;", "c0000", "f160", " m0;",
            "m0; ", "m0;;", "M0;", "f00;", "x0000;", "w0;", "w000;", "h1;", "h001;", "m-1;", ";", "m0;m1;0",
            "c/000;", "c:000;", "m0;f1x0;"};
        int[] places = {0, 1, 2, 4, 0, 1, 2, 2, 4, 5, 4, 0,
            3, 3, 0, 3, 4, 2, 3, 2, 3, 1, 0, 6,
            1, 1, 5};
        for (int i = 0; i < texts.length; i++) {
            PapersAreOnCats x = new PapersAreOnCats();
            due("form of '" + texts[i] + "'", Check.tell(x, texts[i]), -1000 - places[i]);
            due("form of '" + texts[i] + "': men", x.count(1), 0);
        }
        PapersAreOnCats x = new PapersAreOnCats();
        due("form outranks sense", Check.tell(x, "m2;q"), -1003);
        due("form outranks sense at the end", Check.tell(x, "m2;m0"), -1005);
        x.row(0, 0, 4);
        due("bytes of 0", x.frontier(0), -1000);
        x.put(0, 0, 'm');
        x.put(0, 1, '0');
        x.put(0, 2, ';');
        due("a byte of 0 behind", x.frontier(0), -1003);
        x.put(0, 3, 256 + 'm');
        due("only the lowest bits of what is put", x.frontier(0), -1004);
        x.put(0, 3, -1);
        due("a byte below 0", x.frontier(0), -1003);
    }

    private static void faultsOfSense() {
        String[] texts = {"c8000;", "c9000;", "c0016;", "c0099;", "m2;", "m9;", "f160;", "f990;", "x160;", "w00;",
            "w09;", "c0000;w10;", "c0000;w01;", "c0000;w08;", "c0000;m0;w01;", "h00;", "h61;", "h99;",
            "c0000;c0000;c0000;c0000;c0000;c0000;c0000;", "m0;m0;m0;m0;m0;m0;m0;",
            "m0;h05;m2;", "m0;f105;m3;m4;"};
        int[] places = {0, 0, 0, 0, 0, 0, 0, 0, 0, 0,
            0, 6, 6, 6, 9, 0, 0, 0,
            36, 18,
            7, 8};
        for (int i = 0; i < texts.length; i++) {
            PapersAreOnCats x = new PapersAreOnCats();
            due("sense of '" + texts[i] + "'", Check.tell(x, texts[i]), -2000 - places[i]);
            due("sense of '" + texts[i] + "': cats", x.count(0), 0);
            due("sense of '" + texts[i] + "': men", x.count(1), 0);
            due("sense of '" + texts[i] + "': hour", x.count(2), 8);
            due("sense of '" + texts[i] + "': fish", x.count(5), 0);
        }
        PapersAreOnCats x = Check.land("c0000;");
        due("w for what stands already", Check.tell(x, "m0;w00;"), 2);
        due("a cat that comes later", Check.tell(x, "w10;c0000;"), -2000);
        due("six cats are no fault", Check.tell(x, "c0000;c0000;c0000;c0000;c0000;"), 5);
        due("six cats", x.count(0), 6);
        due("six men are no fault", Check.tell(x, "m0;m0;m0;m0;m1;"), 5);
        due("cat 5, man 5", Check.tell(x, "w55;"), 1);
        due("no cat 6", Check.tell(x, "w65;"), -2000);
        due("no man 6", Check.tell(x, "w56;"), -2000);
    }

    private static void textRefused() {
        PapersAreOnCats x = new PapersAreOnCats();
        due("frontier(-1)", x.frontier(-1), -1);
        due("frontier(8)", x.frontier(8), -1);
        due("frontier of nothing", x.frontier(7), -11);
        x.keep(7, 1, 0, 0);
        due("frontier of a kind", x.frontier(7), -12);
        Check.fill(x, 7, Check.SHORTS, 'm', '0', ';');
        due("frontier of shorts", x.frontier(7), -12);
        Check.fill(x, 7, Check.INTS, 'm', '0', ';');
        due("frontier of ints", x.frontier(7), -12);
        Check.fill(x, 7, Check.BYTES, 'm', '0', ';');
        due("frontier of bytes", x.frontier(7), 1);
    }

    private static void lastDay() {
        PapersAreOnCats x = Check.land("c0000;m0;w00;");
        due("1500 hours", Check.tell(x, "h60;".repeat(25)), 25);
        for (int i = 1; i < 15; i++) {
            x.frontier(0);
        }
        due("to the last hour but one", Check.tell(x, "h60;".repeat(24) + "h50;"), 25);
        due("last day", x.count(3), 999);
        due("last hour but one", x.count(2), 22);
        due("hours(2) on the last day", x.hours(2), -3);
        due("hours(60) on the last day", x.hours(60), -3);
        due("hours(61) on the last day", x.hours(61), -1);
        due("h02 on the last day", Check.tell(x, "m1;h02;"), -2003);
        due("nobody came", x.count(1), 1);
        due("still that hour", x.count(2), 22);
        due("hours(1) on the last day", x.hours(1), 0);
        due("last hour", x.count(2), 23);
        due("h01 at the last hour", Check.tell(x, "h01;"), -2000);
        due("hours(1) at the last hour", x.hours(1), -3);
        x.writes(0, 0);
        due("in mind the day is no matter", x.catThen(0, 99, 1), 99);
        x.lays(15, 0, 1);
        due("in mind the day is no matter: crosses", x.crosses(0), 8);
        due("image tells the day", x.image(), 999);
    }

    private static void catTold() {
        PapersAreOnCats x = Check.land("c2905;c3304;m1;w00;h03;");
        int[] tom = {2, 9, 4, 3, 0, 4, 4, 1};
        for (int what = 0; what < tom.length; what++) {
            due("cat(0, " + what + ")", x.cat(0, what), tom[what]);
        }
        int[] white = {3, 3, 4, 6, 9, 4, 1, 0};
        for (int what = 0; what < white.length; what++) {
            due("cat(1, " + what + ")", x.cat(1, what), white[what]);
        }
        due("cat(0, 8)", x.cat(0, 8), -1);
        due("cat(0, -1)", x.cat(0, -1), -1);
        due("cat(2, 0)", x.cat(2, 0), -1);
        due("cat(-1, 0)", x.cat(-1, 0), -1);
        due("cat(9, 0)", x.cat(9, 0), -1);
    }

    private static void goals() {
        String[] lands = {
            "c0005;", "c0005;f091;", "c0005;f023;f083;", "c0005;f023;f093;", "c0005;f013;f083;", "c0005;f021;f142;",
            "c0005;f022;f052;", "c0005;f151;f001;", "c0005;x099;",
            "c1005;", "c1005;f099;", "c1005;x012;x092;", "c1005;x012;x113;",
            "c2005;", "c2005;c0007;c0003;", "c2005;c0003;c0007;", "c2005;c0007;c0004;", "c2005;c0005;c0004;",
            "c3005;f149;x149;c0006;",
            "c4004;", "c4004;h01;", "c4015;f079;x079;",
            "c6005;c0009;c0002;", "c6005;",
            "c7005;f149;x009;", "c5005;f149;"};
        int[] goals = {
            5, 9, 2, 2, 8, 14,
            5, 0, 5,
            5, 5, 1, 11,
            5, 7, 3, 4, 5,
            5,
            11, 7, 0,
            2, 5,
            14, 5};
        for (int i = 0; i < lands.length; i++) {
            due("goal in " + lands[i], Check.land(lands[i]).cat(0, 5), goals[i]);
        }
    }

    private static void paces() {
        int[][] paces = {
            {1, 1, 1, 1, 2, 2, 2, 2, 3, 3},
            {1, 1, 1, 1, 2, 2, 2, 2, 3, 3},
            {2, 2, 2, 2, 3, 3, 3, 3, 4, 4},
            {1, 1, 1, 1, 2, 2, 2, 2, 3, 3},
            {3, 3, 3, 3, 3, 3, 3, 3, 3, 3},
            {1, 1, 1, 1, 2, 2, 2, 2, 3, 3},
            {4, 4, 4, 4, 6, 6, 6, 6, 8, 8},
            {0, 0, 0, 0, 0, 0, 0, 0, 0, 0}};
        for (int kind = 0; kind < 8; kind++) {
            for (int figure = 0; figure < 10; figure++) {
                PapersAreOnCats x = Check.land("c" + kind + figure + "05;");
                due("pace of kind " + kind + ", figure " + figure, x.cat(0, 6), paces[kind][figure]);
            }
        }
        PapersAreOnCats x = Check.land("c7905;");
        for (int h = 8; h < 8 + 48; h++) {
            due("pace of an old one at " + h, x.cat(0, 6), h % 24 % 3 == 0 ? 1 : 0);
            x.hours(1);
        }
        x = Check.land("c7005;f149;");
        x.hours(24);
        due("an old one goes eight places a day", x.cat(0, 2), 13);
    }

    private static void shellByHours() {
        PapersAreOnCats x = Check.land("c5005;f159;");
        for (int h = 8; h < 8 + 48; h++) {
            int hour = h % 24;
            boolean asCat = hour >= 20 || hour <= 4;
            due("goal of a shell at " + hour, x.cat(0, 5), asCat || x.cat(0, 2) == 15 ? 15 : x.cat(0, 2));
            x.hours(1);
        }
        x = Check.land("c5000;f159;h24;");
        due("a shell goes nine hours a day", x.cat(0, 2), 9);
    }

    private static void manAndPlaceTold() {
        PapersAreOnCats x = Check.land("m0;m1;c0007;f099;w00;h01;");
        due("man(0, 0)", x.man(0, 0), 1);
        due("man(0, 1)", x.man(0, 1), 1);
        due("man(1, 0)", x.man(1, 0), 1);
        due("man(1, 1)", x.man(1, 1), 0);
        due("man(0, 2)", x.man(0, 2), -1);
        due("man(0, -1)", x.man(0, -1), -1);
        due("man(2, 0)", x.man(2, 0), -1);
        due("man(-1, 0)", x.man(-1, 0), -1);

        x = Check.land("c0003;c1003;c3015;f034;x035;f009;x159;");
        due("place(3, 0)", x.place(3, 0), 4);
        due("place(3, 1)", x.place(3, 1), 5);
        due("place(3, 2)", x.place(3, 2), 3);
        due("place(15, 0)", x.place(15, 0), 0);
        due("place(15, 1)", x.place(15, 1), 9);
        due("place(15, 2)", x.place(15, 2), 4);
        due("place(0, 0)", x.place(0, 0), 9);
        due("place(0, 2)", x.place(0, 2), 0);
        due("place(0, 3)", x.place(0, 3), -1);
        due("place(0, -1)", x.place(0, -1), -1);
        due("place(16, 0)", x.place(16, 0), -1);
        due("place(-1, 0)", x.place(-1, 0), -1);
    }

    private static void comesAndWaits() {
        PapersAreOnCats x = new PapersAreOnCats();
        due("comes of nothing", x.comes(0, 0), -11);
        x.row(0, 0, 3);
        due("comes of a row", x.comes(0, 0), -12);
        due("comes(-1, 0)", x.comes(-1, 0), -1);
        due("comes(8, 0)", x.comes(8, 0), -1);
        due("comes(0, 16)", x.comes(0, 16), -1);
        due("comes(1, -1): -1 ahead of -11", x.comes(1, -1), -1);
        x.keep(0, 1, 6, 7);
        for (int cat = 0; cat < 6; cat++) {
            due("comes: its number", x.comes(0, cat), cat);
        }
        due("comes: kind", x.cat(5, 0), 6);
        due("comes: figure", x.cat(5, 1), 7);
        due("comes: at", x.cat(5, 2), 5);
        due("comes: hair", x.cat(5, 3), 0);
        due("comes: name", x.cat(5, 4), 9);
        due("comes: no room", x.comes(0, 0), -2);
        due("comes: -1 ahead of -2", x.comes(0, 16), -1);
        due("comes: -11 ahead of -2", x.comes(1, 0), -11);
        x.row(1, 0, 0);
        due("comes: -12 ahead of -2", x.comes(1, 0), -12);
        due("comes: it stays on its shelf", x.cost(0), 9);

        due("waits(2)", x.waits(2), -1);
        due("waits(-1)", x.waits(-1), -1);
        for (int man = 0; man < 6; man++) {
            due("waits: the number", x.waits(man & 1), man);
        }
        due("waits: side", x.man(5, 0), 1);
        due("waits: not passed", x.man(5, 1), 0);
        due("waits: no room", x.waits(0), -2);
        due("waits: -1 ahead of -2", x.waits(2), -1);
        due("six men", x.count(1), 6);
    }

    private static void writesLaysCarries() {
        PapersAreOnCats x = Check.land("c3005;m0;m1;h04;");
        due("writes", x.writes(0, 1), 9);
        due("writes: shaved", x.cat(0, 3), 0);
        x.hours(1);
        due("writes again", x.writes(0, 0), 1);
        due("writes again: shaved", x.cat(0, 3), 0);
        x.hours(1);
        due("writes none", x.writes(0, 9), 0);
        due("writes none: shaved", x.cat(0, 3), 0);
        due("writes none: name", x.cat(0, 4), 9);
        due("writes none twice", x.writes(0, 9), 9);
        due("writes(0, 2)", x.writes(0, 2), -1);
        due("writes(0, -1)", x.writes(0, -1), -1);
        due("writes(0, 10)", x.writes(0, 10), -1);
        due("writes(1, 0)", x.writes(1, 0), -1);
        due("writes(-1, 9)", x.writes(-1, 9), -1);

        due("lays fish", x.lays(15, 0, 9), 0);
        due("lays fish again", x.lays(15, 0, 3), 9);
        due("lays mice", x.lays(15, 1, 4), 0);
        due("lays mice again", x.lays(15, 1, 0), 4);
        due("lays: fish", x.place(15, 0), 3);
        due("lays: mice", x.place(15, 1), 0);
        due("lays(16, 0, 0)", x.lays(16, 0, 0), -1);
        due("lays(-1, 0, 0)", x.lays(-1, 0, 0), -1);
        due("lays(0, 2, 0)", x.lays(0, 2, 0), -1);
        due("lays(0, -1, 0)", x.lays(0, -1, 0), -1);
        due("lays(0, 0, 10)", x.lays(0, 0, 10), -1);
        due("lays(0, 1, -1)", x.lays(0, 1, -1), -1);

        x.writes(0, 0);
        due("carries", x.carries(0, 15), 5);
        due("carries: at", x.cat(0, 2), 15);
        due("carries: nobody passes", x.man(0, 1), 0);
        due("carries: no fish less", x.place(15, 0), 3);
        x.hours(1);
        due("carries: nobody passes behind an hour", x.man(0, 1), 0);
        due("carries back", x.carries(0, 0), 15);
        due("carries(0, 16)", x.carries(0, 16), -1);
        due("carries(0, -1)", x.carries(0, -1), -1);
        due("carries(1, 0)", x.carries(1, 0), -1);
        due("carries(-1, 0)", x.carries(-1, 0), -1);
    }

    private static void catsGoByNumbers() {
        // side by side, two toms would change places if both went at once
        PapersAreOnCats x = Check.land("c2005;c2006;h01;");
        due("the first tom", x.cat(0, 2), 6);
        due("the second tom", x.cat(1, 2), 6);
        // the first cat takes the fish that the second would have gone for
        x = Check.land("c0003;c0005;f041;f091;h01;");
        due("the first cat", x.cat(0, 2), 4);
        due("the second cat", x.cat(1, 2), 6);
        // no farther than the goal
        x = Check.land("c0900;f022;h01;");
        due("no farther up", x.cat(0, 2), 2);
        x = Check.land("c0915;f142;h01;");
        due("no farther down", x.cat(0, 2), 14);
        x = Check.land("c0915;f019;h02;");
        due("by its pace down", x.cat(0, 2), 9);
        x = Check.land("c6900;c3015;h01;");
        due("a spy by its pace", x.cat(0, 2), 8);
        x = Check.land("c4001;h01;");
        due("a kitten at an even hour", x.cat(0, 2), 4);
        x.hours(1);
        due("a kitten at an odd hour", x.cat(0, 2), 4);
        x.hours(1);
        due("a kitten at the next even hour", x.cat(0, 2), 7);
        x.hours(2);
        due("a kitten over the frontier", x.cat(0, 2), 8);
    }

    private static void fishGetLess() {
        PapersAreOnCats x = Check.land("c0800;f011;f032;f099;h01;");
        due("pace 3: at 3", x.cat(0, 2), 3);
        due("one fish less where it is", x.place(3, 0), 1);
        due("none less on the way", x.place(1, 0), 1);
        due("none less at the goal", x.place(9, 0), 9);
        x.hours(2);
        due("one less at the goal", x.place(9, 0), 8);
        x.hours(10);
        due("none less for one that stays", x.place(9, 0), 8);
        due("none below 0", x.place(6, 0), 0);
        due("all fish", x.count(5), 10);
        // any kind takes one
        x = Check.land("c4006;f091;h01;");
        due("a kitten takes one", x.place(9, 0), 0);
        x = Check.land("c1006;f093;x099;h03;");
        due("a mouser takes fish", x.place(9, 0), 2);
        due("a mouser takes no mice", x.place(9, 1), 9);
    }

    private static void hairGrows() {
        int[] grows = {1, 1, 1, 2, 1, 0, 1, 1};
        for (int kind = 0; kind < 8; kind++) {
            PapersAreOnCats x = Check.land("c" + kind + "005;");
            x.hours(1);
            due("grows, kind " + kind, x.cat(0, 3), grows[kind]);
            x.hours(48);
            due("grows behind 49, kind " + kind, x.cat(0, 3), 49 * grows[kind]);
            x.hours(1);
            due("grows behind 50, kind " + kind, x.cat(0, 3), Math.min(99, 50 * grows[kind]));
            x.hours(60);
            due("grows to 99, kind " + kind, x.cat(0, 3), grows[kind] == 0 ? 0 : 99);
        }
        for (int kind = 0; kind < 8; kind++) {
            PapersAreOnCats x = Check.land("c" + kind + "005;m0;w00;");
            int readable = grows[kind] == 0 ? 60 : 48 / grows[kind] - 1;
            x.hours(readable);
            due("readable, kind " + kind, x.cat(0, 7), 1);
            due("readable ones, kind " + kind, x.count(6), 1);
            x.hours(1);
            due("not readable any more, kind " + kind, x.cat(0, 7), kind == 5 ? 1 : 0);
            x.writes(0, 9);
            due("not readable without a name, kind " + kind, x.cat(0, 7), 0);
        }
    }

    private static void menPass() {
        PapersAreOnCats x = Check.land("c0007;m0;w00;h46;f081;h01;");
        due("hair 47 when it crosses", x.man(0, 1), 1);
        x = Check.land("c0007;m0;w00;h47;f081;h01;");
        due("hair 48 when it crosses", x.man(0, 1), 0);
        due("hair 48 when it crosses: side", x.man(0, 0), 0);
        x = Check.land("c0008;m0;w00;f071;h01;");
        due("from the other side", x.man(0, 1), 0);
        due("from the other side: side", x.man(0, 0), 0);
        Check.tell(x, "f071;f151;f070;h01;");
        due("back with him", x.man(0, 1), 1);
        due("back with him: side", x.man(0, 0), 1);
        Check.tell(x, "f001;f150;h02;");
        due("he stays where he is", x.man(0, 0), 1);
        x = Check.land("c0008;m1;w00;f071;h01;");
        due("from side 1", x.man(0, 1), 1);
        due("from side 1: side", x.man(0, 0), 0);
        x = Check.land("c0007;c0007;m0;m0;w00;w10;f089;h01;");
        due("one name on two cats: he", x.count(4), 1);
        x = Check.land("c0007;m0;f089;h01;");
        due("without a name", x.count(4), 0);
        x = Check.land("c0001;m0;w00;f029;h01;");
        due("without crossing", x.count(4), 0);
        x = Check.land("c5007;m0;w00;f089;h12;");
        due("a shell, ahead of 20", x.count(4), 0);
        x.hours(1);
        due("a shell, at 20", x.count(4), 1);
    }

    private static void hoursTold() {
        PapersAreOnCats x = Check.land("c0007;c0006;m0;m0;w00;w11;f089;");
        due("hours(0)", x.hours(0), -1);
        due("hours(61)", x.hours(61), -1);
        due("hours(-1)", x.hours(-1), -1);
        due("hours(1): how many have passed", x.hours(1), 1);
        due("hours(1): how many have passed, all of them", x.hours(1), 2);
        due("hours(5)", x.hours(5), 2);
        due("hour", x.count(2), 15);
        due("hours(8)", x.hours(8), 2);
        due("hour 23", x.count(2), 23);
        due("day 0", x.count(3), 0);
        due("hours(1) to the next day", x.hours(1), 2);
        due("hour 0", x.count(2), 0);
        due("day 1", x.count(3), 1);
        due("hours(60)", x.hours(60), 2);
        due("hour 12", x.count(2), 12);
        due("day 3", x.count(3), 3);
    }
}
