/** The edges of a FARM and its FAULTs, promises 2 and 3. */
final class FarmEdgeTest {
    private static final String[] WHOLE = {"n0000;", "n9999;", "h00;", "h59;", "t0;", "t9;", "t00;", "t09;", "t40;",
        "r1;", "r9;", "e00;", "e09;"};
    private static final Check CHECK = new Check("FarmEdgeTest");

    public static void main(String[] args) {
        letterAtTheEdges();
        eightyLetters();
        refusedLettersDoNotCome();
        lettersAreNoMore();
        atLeastOneStatement();
        eachStatementAlone();
        theEndIfSomethingLacks();
        theFirstLetterThatDoesNotFit();
        signsBesideDigitsAndNames();
        digitsBeyondWhatAStatementHas();
        timeOfOneOrTwoDigits();
        nothingBehindTheLast();
        faultOfAFullText();
        kindOneGoesAheadOfKindTwo();
        numbersOutOfRange();
        numbersJustInRange();
        noSuchNest();
        noRoomForNests();
        noRoomForEggs();
        roomForEggsGoesByNestAndAge();
        roomForEggsComesBack();
        behindAllAheadOfIt();
        theFirstStatementThatIsNotAsItMustBe();
        nothingComesWithAFault();
        comesBesideWhatIsThere();
        whatAFarmLeavesAsItIs();
        CHECK.finish();
    }

    private static void text(String text, int due) {
        NobodyLookedYesterday hens = CHECK.farm("n1234;");
        CHECK.due("3: " + text, Check.read(hens, text), due);
        CHECK.due("3: no letters behind " + text, hens.count(7), 0);
    }

    /** "A letter comes": 0 .. 255. */
    private static void letterAtTheEdges() {
        NobodyLookedYesterday hens = new NobodyLookedYesterday();
        CHECK.due("2: 0", hens.feed(0), 1);
        CHECK.due("2: 255", hens.feed(255), 2);
        CHECK.due("2: -1", hens.feed(-1), -4);
        CHECK.due("2: 256", hens.feed(256), -6);
        CHECK.due("2: two are there", hens.count(7), 2);
    }

    /** "80 at most". */
    private static void eightyLetters() {
        NobodyLookedYesterday hens = new NobodyLookedYesterday();
        String text = "n0000;n0101;n0202;n0303;n0404;n0505;h51;t40;t04;r3;r4;e01;e11;e21;e31;e41;e50;r8;";
        CHECK.due("2: 81 signs are told", text.length(), 81);
        for (int i = 0; i < 80; i++) {
            CHECK.due("2: letter " + i, hens.feed(text.charAt(i)), i + 1);
        }
        CHECK.due("2: the 81st", hens.feed(text.charAt(80)), -6);
        CHECK.due("2: 80 are there", hens.count(7), 80);
        CHECK.due("3: one lacks", hens.farm(), -1080);
        CHECK.due("3: 80 letters come whole", Check.read(hens, text.substring(0, 74) + "t7;r8;"), 18);
        CHECK.due("3: six nests", hens.count(0), 6);
        CHECK.due("3: the last STATEMENT", hens.set(3, 8), 8);
        CHECK.due("3: the last but one", hens.count(6), 7);
    }

    private static void refusedLettersDoNotCome() {
        NobodyLookedYesterday hens = new NobodyLookedYesterday();
        hens.feed('t');
        hens.feed(-1);
        hens.feed('7');
        hens.feed(256);
        hens.feed(';');
        CHECK.due("2: just three", hens.count(7), 3);
        CHECK.due("3: and these are whole", hens.farm(), 1);
        CHECK.due("3: TIME", hens.count(6), 7);
    }

    /** "The letters, which are no more then (with a FAULT neither)". */
    private static void lettersAreNoMore() {
        NobodyLookedYesterday hens = new NobodyLookedYesterday();
        CHECK.due("3: whole", Check.read(hens, "t1;"), 1);
        CHECK.due("3: none", hens.count(7), 0);
        CHECK.due("3: kind 1", Check.read(hens, "t1"), -1002);
        CHECK.due("3: none behind kind 1", hens.count(7), 0);
        CHECK.due("3: kind 2", Check.read(hens, "r0;"), -2000);
        CHECK.due("3: none behind kind 2", hens.count(7), 0);
        CHECK.due("2: the first again", hens.feed('t'), 1);
        CHECK.due("3: just that one", hens.farm(), -1001);
        CHECK.due("3: and none now", hens.farm(), -1000);
    }

    /** "At least one STATEMENT." */
    private static void atLeastOneStatement() {
        CHECK.due("3: a new object", new NobodyLookedYesterday().farm(), -1000);
        text("", -1000);
        text(";", -1000);
    }

    private static void eachStatementAlone() {
        for (String statement : WHOLE) {
            text(statement, 1);
        }
    }

    /** "the end, if something lacks". */
    private static void theEndIfSomethingLacks() {
        for (String statement : WHOLE) {
            for (int length = 1; length < statement.length(); length++) {
                text(statement.substring(0, length), -1000 - length);
                text("t1;" + statement.substring(0, length), -1003 - length);
            }
        }
    }

    /** "the place of the first letter with which no FARM can go on". */
    private static void theFirstLetterThatDoesNotFit() {
        for (String statement : WHOLE) {
            for (int place = 0; place < statement.length(); place++) {
                String spoiled = statement.substring(0, place) + "x" + statement.substring(place + 1);
                text(spoiled, -1000 - place);
                text("r1;" + spoiled + "r1;", -1003 - place);
                text(statement + spoiled, -1000 - statement.length() - place);
            }
        }
    }

    /** The signs next to "0", "9", ";" and next to the letters of STATEMENTS; great letters; 0 and 255. */
    private static void signsBesideDigitsAndNames() {
        for (String sign : new String[] {"/", ":", "\u0000", "\u00ff", " ", "-", "+"}) {
            text("n" + sign + "000;", -1001);
            text("n000" + sign + ";", -1004);
            text("h0" + sign + ";", -1002);
            text("t" + sign + ";", -1001);
            text("t1" + sign, -1002);
            text("t12" + sign, -1003);
            text("r1" + sign, -1002);
            text("e00" + sign, -1003);
        }
        for (String sign : new String[] {"m", "o", "g", "i", "s", "u", "q", "d", "f", "N", "H", "T", "R", "E", "0", "9"}) {
            text(sign + "1;", -1000);
            text("t1;" + sign + "1;", -1003);
        }
    }

    private static void digitsBeyondWhatAStatementHas() {
        text("n00000;", -1005);
        text("h000;", -1003);
        text("t000;", -1003);
        text("r11;", -1002);
        text("e000;", -1003);
        text("n0000n", -1005);
        text("h00h", -1003);
    }

    /** "TIME (1 or 2 digits)". */
    private static void timeOfOneOrTwoDigits() {
        int[] due = {0, 9, 0, 9, 10, 40};
        String[] told = {"t0;", "t9;", "t00;", "t09;", "t10;", "t40;"};
        for (int i = 0; i < told.length; i++) {
            NobodyLookedYesterday hens = CHECK.farm(told[i]);
            CHECK.due("3: TIME of " + told[i], hens.count(6), due[i]);
        }
        text("t;", -1001);
    }

    private static void nothingBehindTheLast() {
        text("t1; ", -1003);
        text("t1;;", -1003);
        text("t1;\n", -1003);
        text("t1;\u0000", -1003);
        text(" t1;", -1000);
        text("t1 ;", -1002);
    }

    private static void faultOfAFullText() {
        NobodyLookedYesterday hens = new NobodyLookedYesterday();
        String most = "r1;r2;r3;r4;r5;r6;r7;r8;r9;r1;r2;r3;r4;r5;r6;r7;r8;r9;r1;r2;r3;r4;r5;r6;r7;r8;";
        CHECK.due("3: the 80th letter", Check.read(hens, most + "tx"), -1079);
        CHECK.due("3: the end at 80", Check.read(hens, most + "t1"), -1080);
        CHECK.due("3: the end at 80, too", Check.read(hens, most.substring(0, 75) + "t4;t5"), -1080);
        CHECK.due("3: the last STATEMENT of 80 letters", Check.read(hens, most.substring(0, 72) + "t40;t41;"), -2076);
        CHECK.due("3: that is as it must be", Check.read(hens, most.substring(0, 72) + "t40;t39;"), 26);
        CHECK.due("3: TIME 39", hens.count(6), 39);
        CHECK.due("3: 26 STATEMENTS", Check.read(hens, most), 26);
        CHECK.due("3: RAT 8", hens.set(3, 9), 8);
    }

    /** "FAULT: kind 1 ..; else kind 2". */
    private static void kindOneGoesAheadOfKindTwo() {
        text("r0;", -2000);
        text("r0;x", -1003);
        text("r0;r", -1004);
        text("h90;t99;e99;n000;", -1016);
    }

    /** "a number out of range". */
    private static void numbersOutOfRange() {
        for (int kind = 6; kind < 10; kind++) {
            text("h" + kind + "0;", -2000);
        }
        for (int time = 41; time < 100; time++) {
            text("t" + time + ";", -2000);
        }
        text("r0;", -2000);
        text("t1;h60;", -2003);
        text("t1;t41;", -2003);
        text("t1;r0;", -2003);
    }

    private static void numbersJustInRange() {
        for (int kind = 0; kind < 6; kind++) {
            for (int figure = 0; figure < 10; figure++) {
                text("h" + kind + figure + ";", 1);
            }
        }
        for (int time = 0; time < 41; time++) {
            text("t" + time + ";", 1);
        }
        for (int rat = 1; rat < 10; rat++) {
            text("r" + rat + ";", 1);
        }
        for (int age = 0; age < 10; age++) {
            text("e0" + age + ";", 1);
        }
    }

    /** "no such nest". */
    private static void noSuchNest() {
        CHECK.due("3: of none", Check.read(new NobodyLookedYesterday(), "e00;"), -2000);
        text("e00;", 1);
        text("e10;", -2000);
        text("e90;", -2000);
        NobodyLookedYesterday six = CHECK.farm("n0000;n0000;n0000;n0000;n0000;n0000;");
        CHECK.due("3: nest 5 of six", Check.read(six, "e59;"), 1);
        CHECK.due("3: nest 6 of six", Check.read(six, "e50;e60;"), -2004);
    }

    /** "no room": a seventh nest. */
    private static void noRoomForNests() {
        NobodyLookedYesterday hens = CHECK.farm("n0000;n1000;n2000;n3000;n4000;");
        CHECK.due("3: two more do not go in", Check.read(hens, "n5000;n6000;"), -2006);
        CHECK.due("3: five still", hens.count(0), 5);
        CHECK.due("3: a sixth", Check.read(hens, "n5100;"), 1);
        CHECK.due("3: six", hens.count(0), 6);
        CHECK.due("3: a seventh", Check.read(hens, "n6000;"), -2000);
        CHECK.due("3: six still", hens.count(0), 6);
        CHECK.due("3: the sixth as it was", hens.nest(5, 1), 1);
        CHECK.due("3: seven at once", Check.read(new NobodyLookedYesterday(),
            "n0000;n0000;n0000;n0000;n0000;n0000;n0000;"), -2036);
    }

    /** "9 of one AGE at most". */
    private static void noRoomForEggs() {
        NobodyLookedYesterday hens = CHECK.farm("n0000;e00;e00;e00;e00;e00;e00;e00;e00;");
        CHECK.due("3: a ninth and a tenth do not go in", Check.read(hens, "e00;e00;"), -2004);
        CHECK.due("3: eight still", hens.count(2), 8);
        CHECK.due("3: the ninth", Check.read(hens, "e00;"), 1);
        CHECK.due("3: the tenth", Check.read(hens, "e00;"), -2000);
        CHECK.due("3: nine", hens.nest(0, 4), 9);
    }

    private static void roomForEggsGoesByNestAndAge() {
        NobodyLookedYesterday hens = CHECK.farm("n0000;n0000;");
        for (int age = 0; age < 10; age++) {
            String egg = "e1" + age + ";";
            CHECK.due("3: nine of AGE " + age, Check.read(hens, egg + egg + egg + egg + egg + egg + egg + egg + egg), 9);
            CHECK.due("3: a tenth of AGE " + age, Check.read(hens, egg), -2000);
        }
        CHECK.due("3: ninety", hens.nest(1, 4), 90);
        CHECK.due("3: none in the other", hens.nest(0, 4), 0);
        CHECK.due("3: room in the other", Check.read(hens, "e00;e09;"), 2);
        CHECK.due("3: ninety are found", hens.look(1), 90);
    }

    private static void roomForEggsComesBack() {
        NobodyLookedYesterday hens = CHECK.farm("n0000;e00;e00;e00;e00;e00;e00;e00;e00;e00;");
        hens.night();
        CHECK.due("3: nine are of AGE 1 now", Check.read(hens, "e01;"), -2000);
        CHECK.due("3: one of AGE 0: eight more", Check.read(hens, "e00;e00;e00;e00;e00;e00;e00;e00;"), 8);
        CHECK.due("3: a ninth more", Check.read(hens, "e00;"), -2000);
        hens.look(0);
        CHECK.due("3: all were taken", Check.read(hens, "e00;e01;"), 2);
    }

    /** "behind all ahead of it in the text". */
    private static void behindAllAheadOfIt() {
        NobodyLookedYesterday hens = new NobodyLookedYesterday();
        CHECK.due("3: ahead of its nest", Check.read(hens, "e00;n0000;"), -2000);
        CHECK.due("3: behind its nest", Check.read(hens, "n0000;e00;"), 2);
        CHECK.due("3: the next one's", Check.read(hens, "e10;n0000;"), -2000);
        CHECK.due("3: behind the next one", Check.read(hens, "n0000;e10;"), 2);
        CHECK.due("3: the last told is so", Check.read(hens, "h11;h22;t1;t2;r1;r2;"), 6);
        CHECK.due("3: KIND 2", hens.set(0, 0), 2);
        CHECK.due("3: FIGURE 2", hens.set(1, 0), 2);
        CHECK.due("3: TIME 2", hens.set(2, 0), 2);
        CHECK.due("3: RAT 2", hens.set(3, 9), 2);
    }

    private static void theFirstStatementThatIsNotAsItMustBe() {
        text("r0;t41;h60;", -2000);
        text("t4;t41;r0;", -2003);
        text("t40;e00;n1111;e10;e20;e30;", -2018);
        text("n1111;n1111;n1111;n1111;n1111;n1111;e90;", -2030);
    }

    /** "Without FAULT all of it comes, with one nothing." */
    private static void nothingComesWithAFault() {
        for (String tail : new String[] {"e90;", "h60;", "t41;", "r0;", "x", "t"}) {
            NobodyLookedYesterday hens = CHECK.farm("n1234;h31;t12;r5;e03;");
            Check.read(hens, "n5678;h42;t34;r7;e04;e14;" + tail);
            NobodyLookedYesterday twin = CHECK.farm("n1234;h31;t12;r5;e03;");
            CHECK.dueAll("3: nothing behind " + tail, Portrait.of(hens), Portrait.of(twin));
        }
    }

    /** "a nest more", "an EGG more there": what there was stays. */
    private static void comesBesideWhatIsThere() {
        NobodyLookedYesterday hens = CHECK.farm("n1234;e03;");
        hens.night();
        CHECK.due("3: more", Check.read(hens, "n5678;e00;e14;"), 3);
        CHECK.due("3: nest 0 as it was", hens.nest(0, 3), 4);
        CHECK.due("3: three EGGS there", hens.nest(0, 4), 3);
        CHECK.due("3: nest 1", hens.nest(1, 0), 5);
        CHECK.due("3: one EGG there", hens.nest(1, 5), 4);
    }

    private static void whatAFarmLeavesAsItIs() {
        NobodyLookedYesterday hens = CHECK.farm("n1234;n4321;e03;");
        hens.look(0);
        hens.night();
        hens.look(1);
        hens.row(3);
        CHECK.tell(hens, "n5678;h31;t34;r7;");
        CHECK.due("3: DAY", hens.count(1), 1);
        CHECK.due("3: LAST", hens.count(3), 1);
        CHECK.due("3: LOOKED", hens.count(4), 2);
        CHECK.due("3: BEFORE", hens.count(5), 1);
        CHECK.due("3: TIME left of the new TIME", hens.count(6), 32);
        CHECK.due("3: ROW", hens.count(8), 1);
        CHECK.due("3: EGGS found so far", hens.count(9), 2);
    }
}
