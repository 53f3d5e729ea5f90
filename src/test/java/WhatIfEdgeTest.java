import java.util.function.Supplier;

/** The edges of promises 18 to 20, 24 and 25: a nest taken away or put up, EGGS by AGE, the IMAGE. */
final class WhatIfEdgeTest {
    private static final Check CHECK = new Check("WhatIfEdgeTest");

    public static void main(String[] args) {
        withoutTheOnlyOne();
        withoutOneOfTwo();
        withoutLast();
        withoutNestNothing();
        withoutTheOnesNobodyLookedAt();
        withoutAndNumbersStay();
        withoutAndAllAreNothing();
        withoutByLot();
        putIntoNothing();
        putASixth();
        putAtTheEdges();
        putWhereNobodyLooked();
        putIsTheNextNumber();
        putWithNoEggs();
        putByLot();
        putAsNear();
        putIsNotThere();
        restoredToFewerNests();
        faultIsNotThere();
        beenOfEachAge();
        beenOfSeveral();
        beenOfNone();
        imageOfNothing();
        imageIsTakenAnew();
        imageHoldsTheYard();
        imageIsHeldApart();
        imageWithoutTheRest();
        restoredTwice();
        CHECK.finish();
    }

    /** "-9 there is no other one". */
    private static void withoutTheOnlyOne() {
        NobodyLookedYesterday hens = CHECK.farm("n0000;");
        CHECK.due("18: no other one", hens.without(0), -9);
        hens.look(0);
        CHECK.due("18: looked at", hens.without(0), -9);
        hens.night();
        for (int kind = 0; kind < 6; kind++) {
            hens.set(0, kind);
            CHECK.due("18: KIND " + kind + " from LAST", hens.without(0), -9);
        }
        CHECK.due("18: that is no refusal", hens.count(11), 0);
    }

    private static void withoutOneOfTwo() {
        NobodyLookedYesterday hens = CHECK.farm("n0000;n9900;");
        for (int kind = 0; kind < 6; kind++) {
            hens.set(0, kind);
            CHECK.due("18: KIND " + kind + ", 0 is left", hens.without(1), 0);
            CHECK.due("18: KIND " + kind + ", 1 is left", hens.without(0), 1);
        }
    }

    /** "she goes from its point, too, if it is LAST". */
    private static void withoutLast() {
        NobodyLookedYesterday hens = CHECK.farm("n0000;n9900;n8800;n2200;");
        hens.look(0);
        hens.look(3);
        hens.look(2);
        CHECK.due("18: LAST is 1", hens.night(), 1);
        CHECK.due("18: from 1, gone or not", hens.without(1), 2);
        hens.set(0, 3);
        CHECK.due("18: AWAY from 1, gone or not", hens.without(1), 2);
        CHECK.due("18: 0 of LAST", hens.without(2), 3);
    }

    /** "or nest 0", if there is no LAST. */
    private static void withoutNestNothing() {
        NobodyLookedYesterday hens = CHECK.farm("n9900;n0000;n2200;n8800;");
        CHECK.due("18: no LAST, from nest 0, gone or not", hens.without(0), 3);
        hens.set(0, 3);
        CHECK.due("18: AWAY, too", hens.without(0), 3);
        CHECK.due("18: another one gone", hens.without(3), 0);
    }

    /** Where she MAY then: all that are left, if one looked at each of these. */
    private static void withoutTheOnesNobodyLookedAt() {
        NobodyLookedYesterday hens = CHECK.farm("n0000;n1100;n2200;n3300;n4400;n5500;");
        for (int nest = 0; nest < 5; nest++) {
            hens.look(nest);
        }
        CHECK.due("18: 5 is the only one", hens.tonight(0), 5);
        CHECK.due("18: without it any other", hens.without(5), 0);
        CHECK.due("18: without another just 5", hens.without(0), 5);
        hens.look(5);
        CHECK.due("18: looked at all: any other", hens.without(0), 1);
    }

    /** "numbers stay". */
    private static void withoutAndNumbersStay() {
        NobodyLookedYesterday hens = CHECK.farm("n0000;n0000;n0000;n0000;n0000;n0009;h10;");
        CHECK.due("18: 5 without 0", hens.without(0), 5);
        hens.set(0, 5);
        hens.set(1, 4);
        CHECK.due("18: TOLD of 4, without 0", hens.without(0), 4);
        CHECK.due("18: TOLD of 4, without 4", hens.without(4), 5);
        CHECK.due("18: six nests still", hens.count(0), 6);
    }

    /** "if all of these are 0, each is 1": the liked one is not there. */
    private static void withoutAndAllAreNothing() {
        NobodyLookedYesterday hens = CHECK.farm("n0009;n0000;n0000;h10;");
        CHECK.due("18: the least of the others", hens.without(0), 1);
        NobodyLookedYesterday away = CHECK.farm("n0000;n5500;h30;");
        away.night();
        CHECK.due("18: LAST alone", away.without(1), 0);
        NobodyLookedYesterday sly = CHECK.farm("n0000;n5500;h49;");
        sly.night();
        CHECK.due("18: LAST alone, SLY", sly.without(1), 0);
    }

    private static void withoutByLot() {
        NobodyLookedYesterday hens = CHECK.farm("n0000;n0000;n0000;h20;");
        int[][] due = {{1, 0, 0}, {2, 2, 1}, {1, 0, 0}, {2, 2, 1}};
        for (int day = 0; day < due.length; day++) {
            for (int nest = 0; nest < 3; nest++) {
                CHECK.due("18: LOT of DAY " + day + " without " + nest, hens.without(nest), due[day][nest]);
            }
            hens.night();
        }
    }

    /** Without nests the new one is nest 0. */
    private static void putIntoNothing() {
        for (int kind = 0; kind < 6; kind++) {
            NobodyLookedYesterday hens = new NobodyLookedYesterday();
            hens.set(0, kind);
            CHECK.due("19: KIND " + kind + ", all least", hens.put(0, 0, 0), 0);
            CHECK.due("19: KIND " + kind + ", all greatest", hens.put(9, 9, 9), 0);
            CHECK.due("19: none came", hens.count(0), 0);
        }
    }

    private static void putASixth() {
        NobodyLookedYesterday hens = CHECK.farm("n0001;n0001;n0001;n0001;n0001;h10;");
        CHECK.due("19: its number is 5", hens.put(0, 0, 9), 5);
        CHECK.due("19: five nests still", hens.count(0), 5);
        CHECK.tell(hens, "n0001;");
        CHECK.due("19: six are there", hens.put(0, 0, 9), -6);
    }

    /** "-6 (9 each ..)": 9 goes. */
    private static void putAtTheEdges() {
        NobodyLookedYesterday hens = CHECK.farm("n9900;");
        CHECK.due("19: at its own point", hens.put(9, 9, 0), 0);
        hens.look(0);
        CHECK.due("19: the other corner", hens.put(0, 0, 9), 1);
        CHECK.due("19: x 9", hens.put(9, 0, 0), 1);
        CHECK.due("19: y 9", hens.put(0, 9, 0), 1);
        hens.set(0, 1);
        CHECK.due("19: liking 9", hens.put(0, 0, 9), 1);
    }

    /** "nobody looked there", if it is the only such one. */
    private static void putWhereNobodyLooked() {
        NobodyLookedYesterday hens = CHECK.farm("n0009;n0009;n0009;n0009;n0009;");
        for (int nest = 0; nest < 5; nest++) {
            hens.look(nest);
        }
        for (int kind = 0; kind < 6; kind++) {
            hens.set(0, kind);
            CHECK.due("19: KIND " + kind + " just there", hens.put(9, 9, 0), 5);
        }
        CHECK.due("19: not LOOKED", hens.count(4), 31);
    }

    /** "its number is the next one". */
    private static void putIsTheNextNumber() {
        NobodyLookedYesterday hens = CHECK.farm("n0009;n0009;h52;");
        CHECK.due("19: TOLD of it", hens.put(0, 0, 0), 2);
        hens.set(1, 3);
        CHECK.due("19: TOLD of the one behind", hens.put(0, 0, 9), 0);
        hens.set(1, 1);
        CHECK.due("19: TOLD of another", hens.put(0, 0, 9), 1);
    }

    /** "no EGGS": none is left over, and all nine lack. */
    private static void putWithNoEggs() {
        NobodyLookedYesterday hens = CHECK.farm("n0000;h41;e00;");
        CHECK.due("19: as near, and one EGG less", hens.put(0, 0, 0), 1);
        CHECK.due("19: one farther, and one EGG less", hens.put(1, 0, 0), 0);
        hens.image();
        CHECK.tell(hens, "n0000;e10;e10;e10;");
        hens.restore();
        CHECK.due("19: none of an IMAGE's", hens.put(0, 0, 0), 1);
    }

    /** LOT: one more of them. */
    private static void putByLot() {
        NobodyLookedYesterday hens = CHECK.farm("n0000;n0000;h20;");
        int[] due = {0, 1, 2, 0};
        for (int day = 0; day < due.length; day++) {
            CHECK.due("19: LOT of DAY " + day, hens.put(0, 0, 0), due[day]);
            hens.night();
        }
    }

    /** As near as another: the least number, which is never the new one's. */
    private static void putAsNear() {
        NobodyLookedYesterday hens = CHECK.farm("n0000;n0300;");
        hens.look(0);
        CHECK.due("19: as near", hens.put(3, 0, 0), 1);
        CHECK.due("19: nearer", hens.put(2, 0, 0), 2);
        CHECK.due("19: farther", hens.put(4, 0, 0), 1);
        hens.look(1);
        hens.night();
        CHECK.due("19: from LAST", hens.put(0, 0, 0), 0);
        CHECK.due("19: all of 0 but it", CHECK.farm("n0000;h10;").put(0, 0, 1), 1);
        CHECK.due("19: all of 0", CHECK.farm("n0000;h10;").put(0, 0, 0), 0);
    }

    private static NobodyLookedYesterday three() {
        NobodyLookedYesterday hens = CHECK.farm("n0010;n5521;n9032;h25;e00;e13;");
        hens.look(1);
        hens.night();
        hens.image();
        return hens;
    }

    /** All calls that tell, or refuse, by how many nests there are; nest 3 is not there. */
    private static long[] threeNestsTell(NobodyLookedYesterday hens) {
        Check.rowOf(hens, 1, 2);
        return new long[] {hens.nest(3, 0), hens.look(3), hens.likely(3, 0), hens.lead(3), hens.without(3),
            hens.each(8, 1), hens.each(7, 9), hens.tonight(0), hens.tonight(1), hens.likely(2, 1), hens.without(2),
            hens.plan(2, 0), hens.plan(2, 1), hens.shut(), hens.lead(2), hens.ways(), hens.soon(), hens.judge(),
            hens.settle(3), hens.seeds(9, 5), hens.put(9, 9, 9), hens.been(0), hens.count(0), hens.night(),
            hens.count(2), hens.count(11)};
    }

    /** The calls that tell, or refuse, by how many nests there are, each on an object of its own. */
    private static final Twins.Call[] CALLS = {
        h -> h.nest(3, 0), h -> h.nest(2, 6), h -> h.look(3), h -> h.night(), h -> h.tonight(0), h -> h.tonight(1),
        h -> h.likely(3, 0), h -> h.likely(0, 0), h -> h.likely(2, 1), h -> h.plan(2, 0), h -> h.plan(2, 1),
        h -> h.each(8, 1), h -> h.each(7, 9), h -> h.each(0, 1), h -> h.shut(), h -> h.lead(3), h -> h.lead(2),
        h -> h.ways(), h -> h.soon(), h -> h.settle(3), h -> h.without(3), h -> h.without(2), h -> h.put(0, 0, 9),
        h -> h.been(0), h -> h.been(3), h -> h.judge(), h -> h.seeds(9, 5), h -> h.image(), h -> h.restore(),
        h -> h.count(0), h -> h.count(2), h -> h.count(4), h -> h.count(6), h -> h.farm()};

    private static NobodyLookedYesterday threeLookedAt() {
        NobodyLookedYesterday hens = three();
        for (int nest = 0; nest < 3; nest++) {
            CHECK.due("19: a look is allowed", hens.look(nest) < 0 ? 1 : 0, 0);
        }
        return hens;
    }

    /** "if there were a nest more": it is thought of, not there. */
    private static void putIsNotThere() {
        putIsNotThere("three nests", WhatIfEdgeTest::three);
        putIsNotThere("looked at all three", WhatIfEdgeTest::threeLookedAt);
        putIsNotThere("no nests", NobodyLookedYesterday::new);
        NobodyLookedYesterday hens = three();
        CHECK.due("19: LOT of DAY 1, the third of four", hens.put(9, 9, 9), 2);
        CHECK.dueAll("19: nothing is done", Portrait.of(hens), Portrait.of(three()));
    }

    private static void putIsNotThere(String what, Supplier<NobodyLookedYesterday> maker) {
        for (int i = 0; i < CALLS.length; i++) {
            NobodyLookedYesterday hens = maker.get();
            hens.put(9, 9, 9);
            CHECK.due("19: " + what + ", call " + i, CALLS[i].answer(hens), CALLS[i].answer(maker.get()));
        }
    }

    private static void restoredToFewerNests() {
        NobodyLookedYesterday hens = three();
        CHECK.tell(hens, "n1234;n4321;e30;e40;h03;");
        hens.seeds(5, 5);
        hens.plan(3, 0);
        hens.restore();
        CHECK.dueAll("25: three nests tell", threeNestsTell(hens), threeNestsTell(three()));
        NobodyLookedYesterday none = new NobodyLookedYesterday();
        none.image();
        CHECK.tell(none, "n1234;n4321;");
        none.night();
        none.restore();
        long[] due = {-1, -1, -3, -3, -3, -3, -3, -3, -3, -1, -1, -3, -3, 0, -9};
        CHECK.dueAll("25: no nests", new long[] {none.nest(0, 0), none.look(0), none.night(), none.tonight(0),
            none.plan(1, 0), none.shut(), none.ways(), none.soon(), none.settle(0), none.lead(0), none.without(0),
            none.judge(), none.seeds(1, 1), none.put(0, 0, 0), none.been(0)}, due);
    }

    /** With a FAULT nothing comes, and nothing is left over for what calls think of. */
    private static void faultIsNotThere() {
        NobodyLookedYesterday hens = three();
        CHECK.due("3: a FAULT", Check.read(hens, "n1234;n4321;h03;t40;r1;e30;e00;h90;"), -2031);
        CHECK.dueAll("3: three nests tell", threeNestsTell(hens), threeNestsTell(three()));
    }

    /** "-6 9": 0 .. 9 go. */
    private static void beenOfEachAge() {
        for (int age = 0; age < 10; age++) {
            NobodyLookedYesterday hens = CHECK.farm("n0000;n0000;n0000;n0000;n0000;n0000;e5" + age + ";");
            for (int other = 0; other < 10; other++) {
                CHECK.due("20: AGE " + other + " of " + age, hens.been(other), other == age ? 5 : -9);
            }
        }
    }

    /** "of several the least". */
    private static void beenOfSeveral() {
        NobodyLookedYesterday hens = CHECK.farm("n0000;n0000;n0000;n0000;n0000;n0000;e53;e33;e03;");
        CHECK.due("20: of three", hens.been(3), 0);
        hens.look(0);
        CHECK.due("20: of two", hens.been(3), 3);
        hens.look(3);
        CHECK.due("20: the one", hens.been(3), 5);
        hens.look(5);
        CHECK.due("20: none", hens.been(3), -9);
    }

    private static void beenOfNone() {
        NobodyLookedYesterday hens = new NobodyLookedYesterday();
        CHECK.due("20: no nests, AGE 0", hens.been(0), -9);
        CHECK.due("20: no nests, AGE 9", hens.been(9), -9);
        CHECK.due("20: no refusal", hens.count(13), 0);
        CHECK.due("20: no EGGS", CHECK.farm("n0000;").been(0), -9);
    }

    private static void imageOfNothing() {
        NobodyLookedYesterday hens = new NobodyLookedYesterday();
        CHECK.due("24: DAY 0", hens.image(), 0);
        CHECK.tell(hens, "n1234;h59;t40;r1;e05;");
        hens.look(0);
        hens.night();
        CHECK.due("25: DAY 0", hens.restore(), 0);
        NobodyLookedYesterday twin = new NobodyLookedYesterday();
        twin.image();
        CHECK.dueAll("25: as a new object", Portrait.of(hens), Portrait.of(twin));
    }

    private static void imageIsTakenAnew() {
        NobodyLookedYesterday hens = CHECK.farm("n0000;");
        for (int day = 0; day < 4; day++) {
            CHECK.due("24: DAY", hens.image(), day);
            CHECK.due("25: the newest", hens.restore(), day);
            hens.night();
        }
        CHECK.due("25: just the newest", hens.restore(), 3);
    }

    private static NobodyLookedYesterday midday() {
        NobodyLookedYesterday hens = CHECK.farm("n1234;n5618;n9021;h42;t33;r6;e03;e09;e15;");
        hens.look(1);
        hens.night();
        CHECK.tell(hens, "e10;e24;");
        hens.look(0);
        return hens;
    }

    /** "all that there is": nests, EGGS, the HEN, SETTINGS, LOOKED, BEFORE, LAST, DAY, EGGS found so far. */
    private static void imageHoldsTheYard() {
        NobodyLookedYesterday hens = midday();
        hens.image();
        CHECK.tell(hens, "n0000;n1111;n2222;h51;t11;r2;e02;e12;e22;e32;");
        hens.look(1);
        hens.night();
        hens.look(2);
        hens.night();
        CHECK.due("25: DAY 1", hens.restore(), 1);
        NobodyLookedYesterday twin = midday();
        twin.image();
        CHECK.dueAll("25: as it was", Portrait.of(hens), Portrait.of(twin));
    }

    /** What is done behind the IMAGE does not go into it. */
    private static void imageIsHeldApart() {
        NobodyLookedYesterday hens = midday();
        hens.image();
        hens.night();
        hens.restore();
        hens.set(1, 7);
        hens.look(2);
        CHECK.tell(hens, "e05;");
        hens.restore();
        NobodyLookedYesterday twin = midday();
        twin.image();
        CHECK.dueAll("25: untouched", Portrait.of(hens), Portrait.of(twin));
    }

    /** "but it, letters, the ROW, REFUSALS". */
    private static void imageWithoutTheRest() {
        NobodyLookedYesterday hens = CHECK.farm("n0000;");
        Check.rowOf(hens, 1, 2, 3);
        hens.feed('t');
        hens.look(1);
        hens.image();
        hens.clear();
        hens.row(4);
        hens.feed('7');
        hens.feed(';');
        hens.look(1);
        hens.restore();
        CHECK.due("25: the ROW stays", hens.count(8), 1);
        CHECK.due("25: the letters stay", hens.count(7), 3);
        CHECK.due("25: REFUSALS stay", hens.count(11), 2);
        CHECK.due("25: these letters", hens.farm(), 1);
        CHECK.due("25: TIME", hens.count(6), 7);
        CHECK.due("25: the IMAGE is no part of it", hens.restore(), 0);
    }

    private static void restoredTwice() {
        NobodyLookedYesterday hens = midday();
        hens.image();
        for (int i = 0; i < 3; i++) {
            hens.night();
            hens.night();
            CHECK.due("25: DAY 1 again", hens.restore(), 1);
            CHECK.due("25: LOOKED again", hens.count(4), 1);
        }
    }
}
