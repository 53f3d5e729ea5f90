/** Promises 2 and 3: letters, FARMS and their FAULTS. */
final class FarmTest {
    private static final Check CHECK = new Check("FarmTest");

    public static void main(String[] args) {
        promise2Feed();
        promise2Room();
        promise3Farm();
        promise3FaultOfKind1();
        promise3FaultOfKind2();
        promise3NothingComesWithAFault();
        CHECK.finish();
    }

    private static void promise2Feed() {
        NobodyLookedYesterday hens = new NobodyLookedYesterday();
        CHECK.due("2: the first", hens.feed(0), 1);
        CHECK.due("2: the greatest", hens.feed(255), 2);
        CHECK.due("2: how many", hens.count(7), 2);
        CHECK.refused("2: below", hens, -4, () -> hens.feed(-1));
        CHECK.refused("2: far below", hens, -4, () -> hens.feed(Integer.MIN_VALUE));
        CHECK.refused("2: above", hens, -6, () -> hens.feed(256));
    }

    private static void promise2Room() {
        NobodyLookedYesterday hens = new NobodyLookedYesterday();
        for (int i = 1; i <= 80; i++) {
            CHECK.due("2: letter " + i, hens.feed("t1;r1;t22;".charAt((i - 1) % 10)), i);
        }
        CHECK.refused("2: 80 are there", hens, -6, () -> hens.feed(';'));
        CHECK.refused("2: -4 ahead of -6", hens, -4, () -> hens.feed(-1));
        CHECK.due("3: 80 letters", hens.farm(), 24);
        CHECK.due("3: TIME", hens.set(2, 0), 22);
        for (int i = 1; i <= 80; i++) {
            hens.feed(i % 3 == 1 ? 'r' : i % 3 == 2 ? '4' : ';');
        }
        CHECK.due("3: the end at 80", hens.farm(), -1080);
    }

    private static void promise3Farm() {
        NobodyLookedYesterday hens = new NobodyLookedYesterday();
        CHECK.due("3: STATEMENTS", Check.read(hens, "n1234;n5678;h57;t7;t07;t40;r1;e09;e10;e10;"), 10);
        CHECK.dueAll("3: counts", Check.counts(hens), 2, 0, 3, -9, 0, 0, 40, 0, 0, 0, 0, 0, 0, 0, 0, 0);
        for (int what = 0; what < 4; what++) {
            CHECK.due("3: nest 0 " + what, hens.nest(0, what), what + 1);
            CHECK.due("3: nest 1 " + what, hens.nest(1, what), what + 5);
        }
        CHECK.due("3: AGE 9", hens.nest(0, 5), 9);
        CHECK.due("3: two EGGS", hens.nest(1, 4), 2);
        CHECK.due("3: KIND", hens.set(0, 0), 5);
        CHECK.due("3: FIGURE", hens.set(1, 0), 7);
        CHECK.due("3: RAT", hens.set(3, 9), 1);
        CHECK.due("3: TIME of two digits", Check.read(hens, "t03;"), 1);
        CHECK.due("3: is 3", hens.count(6), 3);
        CHECK.due("3: more nests", Check.read(hens, "n0000;n0000;n0000;n0000;e50;"), 5);
        CHECK.due("3: six", hens.count(0), 6);
        hens.look(5);
        CHECK.due("3: an EGG where one looked", Check.read(hens, "e50;"), 1);
        CHECK.due("3: lies there", hens.nest(5, 4), 1);
        CHECK.due("3: looked still", hens.nest(5, 7), 1);
    }

    private static void promise3FaultOfKind1() {
        fault("", -1000);
        fault("n", -1001);
        fault("n0000", -1005);
        fault("n000", -1004);
        fault("n000;", -1004);
        fault("n00000;", -1005);
        fault("n00a0;", -1003);
        fault("h1;", -1002);
        fault("h123;", -1003);
        fault("h12", -1003);
        fault("t;", -1001);
        fault("t123;", -1003);
        fault("t1", -1002);
        fault("t12", -1003);
        fault("t-1;", -1001);
        fault("r;", -1001);
        fault("r12;", -1002);
        fault("e1;", -1002);
        fault("e123;", -1003);
        fault(";", -1000);
        fault("N0000;", -1000);
        fault(" t1;", -1000);
        fault("t1; ", -1003);
        fault("t1;;", -1003);
        fault("t1;x", -1003);
        fault("t1;n", -1004);
        fault("t1;\u0000", -1003);
        fault("t1;\u00ff", -1003);
        fault("h60;t1;r", -1008);
        fault("h60;t1;q", -1007);
    }

    private static void promise3FaultOfKind2() {
        fault("h60;", -2000);
        fault("h59;h99;", -2004);
        fault("t41;", -2000);
        fault("t1;t99;", -2003);
        fault("r0;", -2000);
        fault("r9;r1;r0;r0;", -2006);
        fault("e00;", -2000);
        fault("e00;n0000;", -2000);
        fault("n0000;e10;", -2006);
        fault("n0000;n0000;n0000;n0000;n0000;n0000;n0000;", -2036);
        fault("n0000;e00;e00;e00;e00;e00;e00;e00;e00;e00;e01;e00;", -2046);
        NobodyLookedYesterday hens = CHECK.farm("n0000;n0000;e00;e00;e00;e00;e00;e00;e00;e00;e00;");
        CHECK.due("3: nine of an AGE are there", Check.read(hens, "e10;e01;e00;"), -2008);
        CHECK.due("3: of another nest, of another AGE", Check.read(hens, "e10;e01;"), 2);
    }

    private static void fault(String text, int due) {
        NobodyLookedYesterday hens = new NobodyLookedYesterday();
        CHECK.due("3: " + text, Check.read(hens, text), due);
        CHECK.dueAll("3: counts behind " + text, Check.counts(hens),
            0, 0, 0, -9, 0, 0, 10, 0, 0, 0, 0, 0, 0, 0, 0, 0);
    }

    private static void promise3NothingComesWithAFault() {
        NobodyLookedYesterday hens = CHECK.farm("n1234;h12;t13;r4;e00;");
        CHECK.due("3: kind 2", Check.read(hens, "n0000;h33;t22;r2;e05;e10;e20;"), -2025);
        CHECK.due("3: nests", hens.count(0), 1);
        CHECK.due("3: EGGS", hens.count(2), 1);
        CHECK.due("3: letters are no more", hens.count(7), 0);
        CHECK.due("3: KIND", hens.set(0, 1), 1);
        CHECK.due("3: FIGURE", hens.set(1, 2), 2);
        CHECK.due("3: TIME", hens.set(2, 13), 13);
        CHECK.due("3: RAT", hens.set(3, 4), 4);
        CHECK.due("3: KIND out of range, FIGURE in it", Check.read(hens, "h67;"), -2000);
        CHECK.due("3: FIGURE stays", hens.set(1, 2), 2);
        CHECK.due("3: a nest more finds no old EGGS", Check.read(hens, "n0000;"), 1);
        CHECK.due("3: none", hens.nest(1, 4), 0);
    }
}
