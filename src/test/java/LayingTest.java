/** Promises 8, 9, 18 to 20: where she lays, how likely, with a nest less or more, where an EGG lies. */
final class LayingTest {
    /** Points (0,0) (5,5) (9,0) (1,1) (2,9); MINUTES 3 2 3 4 2; LIKING 5 9 1 3 4. */
    private static final String FIVE = "n0035;n5529;n9031;n1143;n2924;t40;";
    private static final Check CHECK = new Check("LayingTest");

    public static void main(String[] args) {
        promise8Kinds();
        promise8Lot();
        promise8Sly();
        promise8AllZero();
        promise8Refusals();
        promise9Likely();
        promise9Refusals();
        promise18Without();
        promise19Put();
        promise19Refusals();
        promise20Been();
        CHECK.finish();
    }

    private static void weights(String what, NobodyLookedYesterday hens, int tonight, long... due) {
        long[] got = new long[due.length];
        for (int nest = 0; nest < due.length; nest++) {
            got[nest] = hens.nest(nest, 6);
        }
        CHECK.dueAll(what + ": WEIGHTS", got, due);
        CHECK.due(what + ": TONIGHT", hens.tonight(0), tonight);
    }

    private static void promise8Kinds() {
        NobodyLookedYesterday hens = CHECK.farm(FIVE);
        CHECK.due("8: MAY all", hens.tonight(1), 31);
        weights("8: NEAR, from nest 0", hens, 0, 20, 10, 11, 18, 9);
        weights("8: AWAY, none LAST", CHECK.farm(FIVE + "h30;"), 0, 20, 10, 11, 18, 9);
        weights("8: LIKES", CHECK.farm(FIVE + "h10;"), 1, 5, 9, 1, 3, 4);
        weights("8: TOLD", CHECK.farm(FIVE + "h52;"), 2, 5, 9, 11, 3, 4);
        weights("8: TOLD of no nest", CHECK.farm(FIVE + "h59;"), 1, 5, 9, 1, 3, 4);
        weights("8: LOT", CHECK.farm(FIVE + "h23;"), 0, 1, 1, 1, 1, 1);
        weights("8: SLY", CHECK.farm(FIVE + "h43;e01;e05;e30;"), 3, 41, 37, 38, 42, 36);
        hens.look(0);
        hens.look(3);
        CHECK.due("8: MAY", hens.tonight(1), 22);
        weights("8: NEAR behind looks", hens, 2, 0, 10, 11, 0, 9);
        hens.night();
        CHECK.due("8: MAY all again", hens.tonight(1), 31);
        weights("8: NEAR, from LAST", hens, 2, 11, 11, 20, 11, 4);
        hens.set(0, 3);
        weights("8: AWAY, the least of several", hens, 0, 11, 11, 0, 11, 4);
        hens.set(0, 4);
        hens.set(1, 1);
        weights("8: SLY at LAST", hens, 0, 20, 20, 8, 20, 13);
        for (int nest = 0; nest < 5; nest++) {
            hens.look(nest);
        }
        CHECK.due("8: MAY all, if looked at all", hens.tonight(1), 31);
    }

    private static void promise8Lot() {
        NobodyLookedYesterday hens = CHECK.farm(FIVE + "h22;");
        int[] due = {0, 3, 1, 4, 2, 0};
        for (int day = 0; day < due.length; day++) {
            CHECK.due("8: LOT of day " + day, hens.tonight(0), due[day]);
            CHECK.due("7: LOT of day " + day, hens.night(), due[day]);
        }
        hens.look(0);
        hens.look(3);
        CHECK.due("8: LOT, 18 modulo 3, of nests 1, 2, 4", hens.tonight(0), 1);
        hens.set(1, 3);
        CHECK.due("8: LOT, 24 modulo 3", hens.tonight(0), 1);
        hens.look(1);
        hens.night();
        hens.look(2);
        CHECK.due("8: LOT, 28 modulo 4, of nests 0, 1, 3, 4", hens.tonight(0), 0);
        hens.set(1, 0);
        CHECK.due("8: LOT, 7 modulo 4", hens.tonight(0), 4);
        hens.set(1, 9);
        CHECK.due("8: LOT, 70 modulo 4", hens.tonight(0), 3);
    }

    private static void promise8Sly() {
        NobodyLookedYesterday hens = CHECK.farm(FIVE + "h49;");
        int[] due = {0, 3, 1, 4, 1};
        for (int where : due) {
            CHECK.due("8: SLY", hens.tonight(0), where);
            hens.night();
        }
        NobodyLookedYesterday full = CHECK.farm("n0000;n9900;h49;e00;e01;e02;e03;e04;e05;e06;e07;e08;e08;");
        weights("8: SLY, more than nine EGGS", full, 1, 20, 83);
    }

    private static void promise8AllZero() {
        NobodyLookedYesterday hens = CHECK.farm("n0000;n1190;n9900;h10;");
        weights("8: no LIKING at all", hens, 0, 1, 1, 1);
        hens.look(0);
        weights("8: none where she may", hens, 1, 0, 1, 1);
        weights("8: six nests, no LIKING", CHECK.farm("n0000;n1000;n2000;n3000;n4000;n5000;h10;"), 0, 1, 1, 1, 1, 1, 1);
        NobodyLookedYesterday away = CHECK.farm("n0000;h30;");
        away.night();
        weights("8: AWAY with one nest", away, 0, 1);
        NobodyLookedYesterday some = CHECK.farm("n0000;n0001;n0000;h10;");
        weights("8: one LIKING", some, 1, 0, 1, 0);
        some.look(1);
        weights("8: one LIKING, looked at", some, 0, 1, 0, 1);
    }

    private static void promise8Refusals() {
        NobodyLookedYesterday hens = CHECK.farm(FIVE);
        CHECK.refused("8: what 2", hens, -2, () -> hens.tonight(2));
        CHECK.refused("8: what -1", hens, -2, () -> hens.tonight(-1));
        NobodyLookedYesterday none = new NobodyLookedYesterday();
        CHECK.refused("8: no nests", none, -3, () -> none.tonight(0));
        CHECK.refused("8: no nests, MAY", none, -3, () -> none.tonight(1));
        CHECK.refused("8: -2 ahead of -3", none, -2, () -> none.tonight(2));
    }

    private static void likely(String what, NobodyLookedYesterday hens, int nest, long above, long below) {
        CHECK.due(what + ": above", hens.likely(nest, 0), above);
        CHECK.due(what + ": below", hens.likely(nest, 1), below);
    }

    private static void promise9Likely() {
        NobodyLookedYesterday hens = CHECK.farm(FIVE);
        likely("9: 20 of 68", hens, 0, 5, 17);
        likely("9: 11 of 68", hens, 2, 11, 68);
        likely("9: 18 of 68", hens, 3, 9, 34);
        hens.look(3);
        likely("9: 10 of 50", hens, 1, 1, 5);
        likely("9: she may not", hens, 3, 0, 1);
        hens.set(0, 2);
        likely("9: LOT", hens, 1, 1, 4);
        hens.set(0, 1);
        likely("9: LIKES", hens, 1, 9, 19);
        likely("9: just one", CHECK.farm("n0000;"), 0, 1, 1);
        likely("9: all of 0", CHECK.farm("n0000;n0000;n0000;h10;"), 2, 1, 3);
        likely("9: 0 of 9", CHECK.farm("n0000;n0009;h10;"), 0, 0, 1);
    }

    private static void promise9Refusals() {
        NobodyLookedYesterday hens = CHECK.farm(FIVE);
        CHECK.due("9: as a long", hens.likely(5, 0), 4000000000000000001L);
        CHECK.due("9: as a long", hens.likely(0, 2), 4000000000000000002L);
        CHECK.refusedLong("9: no such nest", hens, -1, () -> hens.likely(5, 0));
        CHECK.refusedLong("9: nest -1", hens, -1, () -> hens.likely(-1, 0));
        CHECK.refusedLong("9: part 2", hens, -2, () -> hens.likely(4, 2));
        CHECK.refusedLong("9: part -1", hens, -2, () -> hens.likely(4, -1));
        CHECK.refusedLong("9: -1 ahead of -2", hens, -1, () -> hens.likely(5, 2));
    }

    private static void promise18Without() {
        NobodyLookedYesterday hens = CHECK.farm(FIVE);
        CHECK.due("18: from nest 0, gone or not", hens.without(0), 3);
        CHECK.due("18: of another", hens.without(3), 0);
        hens.look(1);
        hens.look(3);
        CHECK.due("18: not where one looked", hens.without(0), 2);
        hens.look(2);
        hens.look(4);
        CHECK.due("18: looked at all the others: any of them", hens.without(0), 3);
        hens.night();
        hens.look(3);
        hens.night();
        hens.look(3);
        hens.look(0);
        hens.night();
        CHECK.due("18: LAST is 2", hens.count(3), 2);
        CHECK.due("18: from LAST's point, gone or not", hens.without(2), 0);
        hens.set(0, 2);
        CHECK.due("18: LOT, 3 modulo 4, of nests 0, 1, 3, 4", hens.without(2), 4);
        hens.set(0, 5);
        hens.set(1, 2);
        CHECK.due("18: TOLD of it", hens.without(2), 1);
        CHECK.due("18: numbers stay", hens.without(0), 2);
        NobodyLookedYesterday away = CHECK.farm("n0000;n9900;h30;");
        away.night();
        CHECK.due("18: AWAY with just LAST left", away.without(1), 0);
        NobodyLookedYesterday one = CHECK.farm("n0000;");
        for (int kind = 0; kind < 6; kind++) {
            one.set(0, kind);
            CHECK.due("18: no other one, KIND " + kind, one.without(0), -9);
        }
        CHECK.refused("18: no such nest", one, -1, () -> one.without(1));
        CHECK.refused("18: nest -1", one, -1, () -> one.without(-1));
    }

    private static void promise19Put() {
        NobodyLookedYesterday hens = CHECK.farm("n5509;n9905;e00;");
        CHECK.due("19: the least of several", hens.put(5, 5, 9), 0);
        hens.look(0);
        CHECK.due("19: nearer", hens.put(5, 5, 0), 2);
        CHECK.due("19: as near", hens.put(1, 1, 0), 1);
        CHECK.due("19: nearer by one", hens.put(2, 1, 0), 2);
        hens.set(0, 1);
        CHECK.due("19: liked more", hens.put(0, 0, 6), 2);
        CHECK.due("19: liked as much", hens.put(0, 0, 5), 1);
        hens.set(0, 5);
        hens.set(1, 2);
        CHECK.due("19: TOLD of the next number", hens.put(0, 0, 0), 2);
        hens.set(0, 2);
        CHECK.due("19: LOT", hens.put(0, 0, 0), 1);
        hens.set(0, 4);
        CHECK.due("19: SLY: no EGGS there", hens.put(9, 9, 0), 1);
        hens.look(1);
        CHECK.due("19: nobody looked there", hens.put(9, 9, 0), 2);
        CHECK.due("19: nothing comes", hens.count(0), 2);
        NobodyLookedYesterday none = new NobodyLookedYesterday();
        CHECK.due("19: no nests", none.put(9, 9, 0), 0);
        none.set(0, 1);
        CHECK.due("19: no nests, LIKES", none.put(0, 0, 0), 0);
        CHECK.due("19: none came", none.count(0), 0);
    }

    private static void promise19Refusals() {
        NobodyLookedYesterday hens = CHECK.farm(FIVE);
        CHECK.due("19: a sixth", hens.put(9, 9, 9), 0);
        CHECK.refused("19: x below", hens, -4, () -> hens.put(-1, 0, 0));
        CHECK.refused("19: y below", hens, -4, () -> hens.put(0, -1, 0));
        CHECK.refused("19: liking below", hens, -4, () -> hens.put(0, 0, -1));
        CHECK.refused("19: x above", hens, -6, () -> hens.put(10, 0, 0));
        CHECK.refused("19: y above", hens, -6, () -> hens.put(0, 10, 0));
        CHECK.refused("19: liking above", hens, -6, () -> hens.put(0, 0, 10));
        CHECK.refused("19: -4 ahead of -6", hens, -4, () -> hens.put(10, 10, -1));
        CHECK.tell(hens, "n0000;");
        CHECK.refused("19: six nests", hens, -6, () -> hens.put(0, 0, 0));
        CHECK.refused("19: -4 ahead of six nests", hens, -4, () -> hens.put(0, 0, -1));
    }

    private static void promise20Been() {
        NobodyLookedYesterday hens = CHECK.farm(FIVE + "e32;e12;e40;e09;");
        CHECK.due("20: the least of several", hens.been(2), 1);
        CHECK.due("20: one", hens.been(0), 4);
        CHECK.due("20: AGE 9", hens.been(9), 0);
        CHECK.due("20: none", hens.been(1), -9);
        hens.look(1);
        CHECK.due("20: the other one", hens.been(2), 3);
        CHECK.refused("20: below", hens, -4, () -> hens.been(-1));
        CHECK.refused("20: above", hens, -6, () -> hens.been(10));
        CHECK.due("20: six nests, none", CHECK.farm(FIVE + "n9999;").been(0), -9);
        CHECK.due("20: no nests", new NobodyLookedYesterday().been(0), -9);
    }
}
