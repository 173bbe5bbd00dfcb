/** The 99th hour counts and the 100th does not; a pair of customs that have no rest. */
public final class EdgesTest {
    /** Found by search; ModelTest looks at all of them, too. */
    static final String[] LANDS = {
        "c5304;c6208;f077;f028;f141;f016;m0;w00;h17;",
        "c7711;c5203;c7106;c3107;f033;f089;f147;f148;f098;x143;m1;w30;h04;",
        "c5400;c3312;c5514;c1904;f141;f038;f157;f155;f068;x107;m0;w00;h14;",
        "c5113;c0907;f097;f154;f158;f047;f016;x079;m0;w00;h16;",
        "c5313;c5401;f031;f147;f107;f007;x038;m0;w00;h13;",
        "c5013;c5000;c7814;c1501;f154;f015;f069;f061;f133;x118;m1;w10;h11;",
        "c5003;c5300;f102;f078;f029;x026;m1;w00;h15;",
        "c2710;c5307;f152;f113;f066;f021;f008;x012;m1;w10;h14;",
        "c5111;c3300;c4802;c6314;f085;f085;f148;f099;f123;m1;w10;h09;",
        "c2405;c0609;c7712;c3611;f071;f151;f063;x155;x093;",
        "c7010;c0307;c0610;c5902;c2306;f132;f061;f021;x132;x033;",
        "c6211;c7215;c3503;c7502;f041;f159;f082;f025;f099;f135;x138;x066;"};

    private static final Check CHECK = new Check("EdgesTest");

    private static void due(String call, long got, long want) {
        CHECK.due(call, got, want);
    }

    public static void main(String[] args) {
        PapersAreOnCats x = Check.land(LANDS[0]);
        due("crosses(0) at 99", x.crosses(0), 99);
        due("crossings(0, 98)", x.crossings(0, 98), 0);
        due("crossings(0, 99)", x.crossings(0, 99), 1);
        due("write(0, 1) at 99", x.write(0, 1), 99);
        due("write(0, 0) at 99", x.write(0, 0), 0);
        due("all() at 99", x.all(), 1);
        dueAtHundred();

        x = Check.land(LANDS[2]);
        due("meet(0, 1) at 99", x.meet(0, 1), 99);
        x = Check.land(LANDS[4]);
        due("passes(0) at 99", x.passes(0), 99);
        due("first() at 99", x.first(), 0);
        x = Check.land(LANDS[7]);
        int other = 15 - x.cat(0, 2);
        due("putFish(0, other, 3, 1) at 99", x.putFish(0, other, 3, 1), 99);

        due("two(6): no such pair", Check.land(LANDS[9]).two(6), -4);
        due("two(4): no such pair", Check.land(LANDS[10]).two(4), -4);
        CHECK.end();
    }

    private static void dueAtHundred() {
        PapersAreOnCats x = Check.land(LANDS[1]);
        due("crosses(0) at 100", x.crosses(0), -4);
        x.hours(1);
        due("crosses(0) an hour later", x.crosses(0), 99);

        x = Check.land(LANDS[3]);
        due("meet(0, 1) at 100", x.meet(0, 1), -4);
        x.hours(1);
        due("meet(0, 1) an hour later", x.meet(0, 1), 99);

        x = Check.land(LANDS[5]);
        due("passes(0) at 100", x.passes(0), -4);
        due("first() at 100", x.first(), -4);
        x.hours(1);
        due("passes(0) an hour later", x.passes(0), 99);
        due("first() an hour later", x.first(), 0);

        x = Check.land(LANDS[6]);
        due("write(0, 1) at 100", x.write(0, 1), -4);
        due("all() at 100", x.all(), 0);
        x.hours(1);
        due("write(0, 1) an hour later", x.write(0, 1), 99);
        due("all() an hour later", x.all(), 1);

        x = Check.land(LANDS[8]);
        int other = 15 - x.cat(0, 2);
        due("putFish at 100", x.putFish(0, other, 3, 1), -4);
        x.hours(1);
        due("putFish an hour later", x.putFish(0, 15 - x.cat(0, 2), 3, 1), 99);
    }
}
