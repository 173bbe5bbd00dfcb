/** The text of a frontier: each byte of each statement that can not stand there, and each number at its ends. */
public final class TextEdgesTest {
    private static final Check CHECK = new Check("TextEdgesTest");
    private static final String LETTERS = "cmfxwh";
    private static final String[] STATEMENTS = {"c0405;", "m1;", "f079;", "x079;", "w00;", "h11;"};

    /** What stands before a text comes, so that each statement can be done. */
    private static final String BEFORE = "c0003;m0;f041;";

    private static void due(String call, long got, long want) {
        CHECK.due(call, got, want);
    }

    public static void main(String[] args) {
        atLeastOne();
        everyByte();
        everyEnd();
        formAheadOfSense();
        fullRow();
        kinds();
        sides();
        places();
        names();
        hours();
        rooms();
        dayAbove999();
        allOrNothing();
        theFirstThatCanNotBe();
        theRowStays();
        CHECK.end();
    }

    private static PapersAreOnCats before() {
        return Check.land(BEFORE);
    }

    /** What the text answers, told to the frontier that stands before. */
    private static void dueText(String text, int want) {
        due("'" + text + "'", Check.tell(before(), text), want);
    }

    // ---- "STATEMENTS, each with ";" behind, one at least"

    private static void atLeastOne() {
        dueText("", -1000);
        for (String statement : STATEMENTS) {
            dueText(statement, 1);
        }
    }

    // ---- "kind 1 the place of the first byte with which no FRONTIER can go on"

    private static void everyByte() {
        for (String statement : STATEMENTS) {
            for (int i = 0; i < statement.length(); i++) {
                for (int sign = -128; sign < 128; sign++) {
                    if (canStand((char) sign, statement.charAt(i))) {
                        continue;
                    }
                    dueByte(statement + "m0;", i, sign);
                    dueByte("m0;" + statement, 3 + i, sign);
                }
            }
        }
    }

    /** For digits all digits, for ';' itself, for a letter all letters: of these sense may lack, but not form. */
    private static boolean canStand(char sign, char there) {
        if (there == ';') {
            return sign == ';';
        }
        return LETTERS.indexOf(there) >= 0 ? LETTERS.indexOf(sign) >= 0 : sign >= '0' && sign <= '9';
    }

    private static void dueByte(String text, int place, int sign) {
        PapersAreOnCats x = before();
        x.row(1, Check.BYTES, text.length());
        for (int i = 0; i < text.length(); i++) {
            x.put(1, i, i == place ? sign : text.charAt(i));
        }
        due("byte " + sign + " at " + place + " of '" + text + "'", x.frontier(1), -1000 - place);
        due("nobody has come", x.count(1), 1);
    }

    // ---- "(the end, if something lacks)"

    private static void everyEnd() {
        for (String statement : STATEMENTS) {
            for (int end = 0; end < statement.length(); end++) {
                if (end > 0) {
                    dueText("m0;" + statement.substring(0, end), -1003 - end);
                }
                dueText(statement.substring(0, end), -1000 - end);
            }
            // a number has just as many digits as told
            int last = statement.length() - 1;
            dueText(statement.substring(0, last) + "0;", -1000 - last);
            dueText(statement.substring(0, last - 1) + ";", -1000 - (last - 1));
        }
        dueText("m0;;", -1003);
        dueText("m0; m1;", -1003);
        dueText("m+1;", -1001);
    }

    // ---- "else kind 2": form is told ahead of sense, wherever it stands

    private static void formAheadOfSense() {
        for (String bad : new String[] {"c8000;", "m2;", "f160;", "x160;", "w90;", "h00;"}) {
            dueText(bad, -2000);
            dueText(bad + "q", -1000 - bad.length());
            dueText(bad + "m", -1000 - bad.length() - 1);
            dueText("m0;" + bad, -2003);
        }
    }

    // ---- a row of 100 bytes

    private static void fullRow() {
        String full = "f001;".repeat(20);
        dueText(full, 20);
        dueText("m0;" + "f001;".repeat(19) + "f", -1099);
        dueText("m0;" + "f001;".repeat(19) + "m0", -1100);
        dueText("f001;".repeat(19) + "f0010", -1099);
        dueText("f001;".repeat(19) + "f160;", -2095);
        dueText("f001;".repeat(18) + "f00;" + "c000;" + "!", -1093);
    }

    // ---- a number out of range, and the ends of each

    private static void kinds() {
        for (int kind = 0; kind <= 9; kind++) {
            for (int figure = 0; figure <= 9; figure++) {
                PapersAreOnCats x = before();
                due("kind " + kind + figure, Check.tell(x, "c" + kind + figure + "05;"), kind <= 7 ? 1 : -2000);
                due("cats, kind " + kind, x.count(0), kind <= 7 ? 2 : 1);
                due("figure " + figure, x.cat(1, 1), kind <= 7 ? figure : -1);
            }
        }
    }

    private static void sides() {
        for (int side = 0; side <= 9; side++) {
            PapersAreOnCats x = before();
            due("side " + side, Check.tell(x, "m" + side + ";"), side <= 1 ? 1 : -2000);
            due("man on side " + side, x.man(1, 0), side <= 1 ? side : -1);
        }
    }

    private static void places() {
        for (int place = 0; place <= 99; place++) {
            String digits = place / 10 + "" + place % 10;
            int want = place <= 15 ? 1 : -2000;
            PapersAreOnCats x = before();
            due("cat at " + digits, Check.tell(x, "c00" + digits + ";"), want);
            due("cat at " + digits + ", told", x.cat(1, 2), place <= 15 ? place : -1);
            for (int v = 0; v <= 9; v++) {
                x = before();
                due("fish at " + digits, Check.tell(x, "f" + digits + v + ";"), want);
                due("fish at " + digits + ", told", x.place(place, 0), place <= 15 ? v : -1);
                due("mice at " + digits, Check.tell(x, "x" + digits + v + ";"), want);
                due("mice at " + digits + ", told", x.place(place, 1), place <= 15 ? v : -1);
            }
        }
    }

    private static void names() {
        for (int cats = 0; cats <= 6; cats++) {
            for (int men = 0; men <= 6; men++) {
                String land = "c0000;".repeat(cats) + "m0;".repeat(men);
                for (int cat = 0; cat <= 9; cat++) {
                    for (int man = 0; man <= 9; man++) {
                        boolean can = cat < cats && (man < men || man == 9);
                        String call = "w" + cat + man + " of " + cats + " cats, " + men + " men";
                        due(call, Check.tell(Check.land(land), "w" + cat + man + ";"), can ? 1 : -2000);
                    }
                }
            }
        }
    }

    private static void hours() {
        for (int n = 0; n <= 99; n++) {
            PapersAreOnCats x = before();
            boolean can = n >= 1 && n <= 60;
            due("h" + n, Check.tell(x, "h" + n / 10 + n % 10 + ";"), can ? 1 : -2000);
            due("h" + n + ": hour", x.count(2), can ? (8 + n) % 24 : 8);
            due("h" + n + ": day", x.count(3), can ? (8 + n) / 24 : 0);
        }
    }

    // ---- no room

    private static void rooms() {
        for (int there = 0; there <= 6; there++) {
            for (int more = 1; more <= 7; more++) {
                int fault = there + more <= 6 ? more : -2000 - 6 * (6 - there);
                PapersAreOnCats x = Check.land("c0000;".repeat(there));
                due(there + " cats, " + more + " more", Check.tell(x, "c0000;".repeat(more)), fault);
                due("cats then", x.count(0), fault > 0 ? there + more : there);
                fault = there + more <= 6 ? more : -2000 - 3 * (6 - there);
                x = Check.land("m0;".repeat(there));
                due(there + " men, " + more + " more", Check.tell(x, "m0;".repeat(more)), fault);
                due("men then", x.count(1), fault > 0 ? there + more : there);
            }
        }
        PapersAreOnCats x = Check.land("c0000;".repeat(6) + "m0;".repeat(6));
        due("a kind out of range where there is no room, too", Check.tell(x, "f001;c8000;"), -2005);
        due("a name though there is no room", Check.tell(x, "w55;"), 1);
    }

    // ---- DAY above 999

    private static void dayAbove999() {
        PapersAreOnCats x = new PapersAreOnCats();
        for (int i = 0; i < 398; i++) {
            x.hours(60);
        }
        // 112 hours ahead of day 1000, 111 of them can go by
        due("two times 60", Check.tell(x, "h60;h60;"), -2004);
        due("60 and 52", Check.tell(x, "m0;h60;h52;"), -2007);
        due("none of it", x.count(3), 995);
        due("none of it: men", x.count(1), 0);
        due("60 and 51", Check.tell(x, "h60;h51;"), 2);
        due("the last hour: day", x.count(3), 999);
        due("the last hour: hour", x.count(2), 23);
        due("not one more", Check.tell(x, "h01;"), -2000);
        due("others can come still", Check.tell(x, "m0;f001;"), 2);
        due("but not behind them", Check.tell(x, "m0;f001;h60;"), -2008);
    }

    // ---- "Without FAULT all of it comes, with one nothing"

    private static void allOrNothing() {
        String all = "c7915;m1;f002;x159;w11;h01;w09;";
        PapersAreOnCats x = before();
        due("all of it", Check.tell(x, all), 7);
        due("cats", x.count(0), 2);
        due("men", x.count(1), 2);
        due("fish", x.place(0, 0), 2);
        due("mice", x.place(15, 1), 9);
        due("a name", x.cat(1, 4), 1);
        due("no name", x.cat(0, 4), 9);
        due("hours", x.count(2), 9);
        for (String fault : new String[] {"m2;", "h00;", "c0016;", "f990;", "w60;", "q", "m"}) {
            x = before();
            String as = Check.frontierTold(x);
            due("with a fault", Check.tell(x, all + fault) < 0 ? 1 : 0, 1);
            due("with the fault " + fault + " nothing", Check.frontierTold(x).equals(as) ? 1 : 0, 1);
        }
    }

    // ---- "tried one behind the other, each on what those ahead of it made, the first that can't be done is told"

    private static void theFirstThatCanNotBe() {
        dueText("w10;c0000;", -2000);
        dueText("c0000;w10;", 2);
        dueText("w01;m0;", -2000);
        dueText("m0;w01;", 2);
        dueText("m2;m3;m4;", -2000);
        dueText("m0;m3;c9999;", -2003);
        dueText("m0;h61;m2;", -2003);
        PapersAreOnCats x = before();
        due("fish of which the later are told", Check.tell(x, "f003;h01;f009;"), 3);
        due("the later", x.place(0, 0), 9);
        // the cat at 3 goes to the fish at 4 in that hour and takes it, ahead of the man's coming
        x = before();
        due("hours ahead of what comes behind", Check.tell(x, "h01;m1;"), 2);
        due("one fish less", x.place(4, 0), 0);
        due("where it is", x.cat(0, 2), 4);
    }

    // ---- "The ROW of a text stays there"

    private static void theRowStays() {
        for (String text : new String[] {"m0;", "m2;", "q", "h01;"}) {
            PapersAreOnCats x = before();
            Check.tell(x, text);
            for (int i = 0; i < text.length(); i++) {
                due("the row of '" + text + "'", x.element(0, i), text.charAt(i));
            }
            due("and no more of it", Check.thrownByElement(x, 0, text.length()), Check.ILLEGAL_STATE);
        }
    }
}
