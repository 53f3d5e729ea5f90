/** Promises 10 to 17 and 21 to 23: plans, told sets and rows, what comes if nobody looks, years by seeds. */
final class ForesightTest {
    /** Points (0,0) (5,5) (9,0) (1,1) (2,9); MINUTES 3 2 3 4 2; LIKING 5 9 1 3 4. */
    private static final String FIVE = "n0035;n5529;n9031;n1143;n2924;";
    private static final Check CHECK = new Check("ForesightTest");

    public static void main(String[] args) {
        promise10Plan();
        promise10AsIfNobodyHadLooked();
        promise10SixNests();
        promise10Refusals();
        promise11Each();
        promise11Refusals();
        promise12Shut();
        promise13Lead();
        promise13SlyAndRefusals();
        promise14Row();
        promise15Ways();
        promise16Soon();
        promise17Settle();
        promise21Judge();
        promise22Seeds();
        promise23Clear();
        nothingIsChanged();
        CHECK.finish();
    }

    private static void plan(String what, NobodyLookedYesterday hens, int n, int found, int set) {
        CHECK.due(what + ": FOUND", hens.plan(n, 0), found);
        CHECK.due(what + ": the set", hens.plan(n, 1), set);
    }

    private static void promise10Plan() {
        NobodyLookedYesterday hens = CHECK.farm(FIVE + "t5;e00;e01;e10;e20;e41;");
        plan("10: nests 0 and 1, or 0 and 4", hens, 1, 3, 3);
        hens.set(2, 0);
        plan("10: no TIME", hens, 3, 0, 0);
        hens.set(2, 40);
        plan("10: all at once", hens, 1, 5, 23);
        NobodyLookedYesterday one = CHECK.farm("n0000;");
        plan("10: nothing yet", one, 1, 0, 0);
        plan("10: of one night", one, 2, 1, 0);
        plan("10: of two nights", one, 3, 2, 0);
        NobodyLookedYesterday rat = CHECK.farm("n0010;n0010;t1;r2;e01;e10;");
        plan("10: AGE 1 first", rat, 1, 1, 1);
        // Else the RAT takes it; she lays at 1 then, where two are found.
        plan("10: ahead of the RAT", rat, 2, 3, 1);
        NobodyLookedYesterday looked = CHECK.farm("n0090;n0190;t9;e00;e10;");
        looked.look(0);
        CHECK.tell(looked, "e00;");
        plan("10: as if nobody had looked today", looked, 1, 1, 1);
        plan("10: and she lays where nobody looked", looked, 2, 3, 1);
        NobodyLookedYesterday three = CHECK.farm("n0010;n0110;n9910;t2;e00;e10;e20;");
        plan("10: two of three", three, 1, 2, 3);
        // She lays at 1 behind a look at 0: two and one are left, all in the TIME of the second day.
        plan("10: two days", three, 2, 4, 1);
        // None, she lays at 0; 0 and 1, she lays at 2; 2.
        plan("10: three days", three, 3, 5, 0);
    }

    private static void promise10AsIfNobodyHadLooked() {
        NobodyLookedYesterday hens = CHECK.farm("n0000;n9990;t8;");
        hens.look(0);
        CHECK.due("10: looked at 0, she lays at 1", hens.tonight(0), 1);
        plan("10: as if not, she lays at 0", hens, 2, 1, 0);
        plan("10: so, too, of three days", hens, 3, 2, 0);
        NobodyLookedYesterday least = CHECK.farm("n0020;n9920;n0920;n9020;t2;e10;e11;e20;e21;e30;e31;h30;");
        // Each of 1, 2, 3 gives two, then two of another: 2 first.
        plan("10: the least set of several", least, 2, 4, 2);
        least.set(2, 1);
        plan("10: none is allowed now", least, 1, 0, 0);
        least.set(2, 2);
        // 1 (she lays at 0), 2 (she lays at 3), 3 with its three.
        plan("10: the least of three days", least, 3, 7, 2);
    }

    private static void promise10SixNests() {
        NobodyLookedYesterday hens = CHECK.farm("n0000;n0000;n0000;n0000;n0000;n0000;e50;e31;t0;");
        plan("10: all of 64 sets", hens, 1, 2, 40);
        plan("10: and the night's", hens, 3, 4, 0);
        hens.night();
        CHECK.due("12: the least of six", hens.shut(), 31);
        lead("13: LAST is 0", hens, 0, 1, 1, 1, 1, 1);
        CHECK.due("11: six nests", hens.each(63, 30), 32);
    }

    private static void promise10Refusals() {
        NobodyLookedYesterday hens = CHECK.farm(FIVE);
        NobodyLookedYesterday none = new NobodyLookedYesterday();
        CHECK.refused("10: what 2", hens, -2, () -> hens.plan(1, 2));
        CHECK.refused("10: what -1", hens, -2, () -> hens.plan(1, -1));
        CHECK.refused("10: n 0", hens, -4, () -> hens.plan(0, 0));
        CHECK.refused("10: n 4", hens, -6, () -> hens.plan(4, 0));
        CHECK.refused("10: no nests", none, -3, () -> none.plan(3, 1));
        CHECK.refused("10: -2 ahead of -4", none, -2, () -> none.plan(0, 2));
        CHECK.refused("10: -4 ahead of -3", none, -4, () -> none.plan(0, 0));
        CHECK.refused("10: -6 ahead of -3", none, -6, () -> none.plan(4, 0));
    }

    private static void promise11Each() {
        NobodyLookedYesterday hens = CHECK.farm(FIVE + "t0;e00;e31;");
        CHECK.due("11: no nest", hens.each(0, 30), 0);
        CHECK.due("11: the first day", hens.each(1, 1), 1);
        CHECK.due("11: she goes to 3", hens.each(1, 30), 1);
        CHECK.due("11: whatever it takes", hens.each(9, 1), 2);
        CHECK.due("11: all: one each day", hens.each(31, 30), 31);
        CHECK.due("11: all of them, from the second day", CHECK.farm("n0000;").each(1, 30), 29);
        NobodyLookedYesterday looked = CHECK.farm("n0000;n9900;");
        looked.look(0);
        CHECK.due("11: as if nobody had looked today", looked.each(2, 5), 0);
        looked.set(0, 3);
        CHECK.due("11: AWAY, where nobody looks", looked.each(2, 5), 0);
        CHECK.due("11: AWAY, of both", looked.each(3, 5), 4);
        NobodyLookedYesterday three = CHECK.farm("n0000;n0109;n9900;h10;");
        three.look(0);
        CHECK.due("11: looked at all three, she would lay at 1", three.each(7, 2), 1);
        CHECK.due("11: as if nobody had looked at 0, there", three.each(6, 2), 0);
    }

    private static void promise11Refusals() {
        NobodyLookedYesterday hens = CHECK.farm(FIVE);
        NobodyLookedYesterday none = new NobodyLookedYesterday();
        CHECK.refused("11: nest 5", hens, -1, () -> hens.each(32, 1));
        CHECK.refused("11: below 0", hens, -1, () -> hens.each(-1, 1));
        CHECK.refused("11: n 0", hens, -4, () -> hens.each(31, 0));
        CHECK.refused("11: n 31", hens, -6, () -> hens.each(31, 31));
        CHECK.refused("11: no nests", none, -3, () -> none.each(0, 30));
        CHECK.refused("11: no such nest ahead", none, -1, () -> none.each(1, 0));
        CHECK.refused("11: -4 ahead of -3", none, -4, () -> none.each(0, 0));
        CHECK.refused("11: -6 ahead of -3", none, -6, () -> none.each(0, 31));
    }

    private static void promise12Shut() {
        NobodyLookedYesterday hens = CHECK.farm(FIVE + "t9;");
        CHECK.due("12: 14 MINUTES in all", hens.shut(), -9);
        hens.set(2, 10);
        CHECK.due("12: all but 3", hens.shut(), 23);
        hens.set(2, 11);
        CHECK.due("12: the least of three", hens.shut(), 23);
        hens.set(2, 12);
        CHECK.due("12: all but 4", hens.shut(), 15);
        hens.look(0);
        CHECK.due("12: of sets, not of looks", hens.shut(), 15);
        CHECK.due("12: just one nest", CHECK.farm("n0090;t0;").shut(), 0);
        NobodyLookedYesterday none = new NobodyLookedYesterday();
        CHECK.refused("12: no nests", none, -3, none::shut);
    }

    private static void lead(String what, NobodyLookedYesterday hens, long... due) {
        long[] got = new long[due.length];
        for (int nest = 0; nest < due.length; nest++) {
            got[nest] = hens.lead(nest);
        }
        CHECK.dueAll(what, got, due);
    }

    private static void promise13Lead() {
        NobodyLookedYesterday hens = CHECK.farm(FIVE + "t0;");
        lead("13: NEAR stays", hens, 1, -9, -9, -9, -9);
        hens.set(2, 3);
        lead("13: NEAR, 3 MINUTES", hens, 1, -9, -9, 1, -9);
        hens.set(2, 7);
        lead("13: NEAR, 7 MINUTES", hens, 1, 2, 1, 1, 3);
        hens.look(1);
        lead("13: as if nobody had looked today", hens, 1, 2, 1, 1, 3);
        hens.night();
        lead("13: LAST is 0", hens, 0, 2, 1, 1, 3);
        hens.set(0, 1);
        hens.set(2, 0);
        lead("13: LIKES", hens, 0, 1, -9, -9, -9);
        lead("13: LIKES, never at 0", CHECK.farm("n0090;n0099;n0091;t0;h10;"), -9, 1, -9);
        lead("13: LIKES, led away from 1", CHECK.farm("n0091;n0009;n0022;t1;h10;"), -9, 1, 1);
        NobodyLookedYesterday lot = CHECK.farm("n0090;n0090;n0090;n0090;n0090;n0090;t0;h20;");
        lead("13: LOT goes by DAY", lot, 1, 2, 3, 4, 5, 6);
        lot.night();
        lead("13: LOT from DAY 1", lot, 0, 1, 2, 3, 4, 5);
        lot.set(1, 1);
        lead("13: LOT, each other one", lot, 0, -9, 1, -9, 2, -9);
        NobodyLookedYesterday far = CHECK.farm("n0090;n1090;n2090;n3090;n4090;n5090;t9;h30;");
        lead("13: AWAY", far, 1, 1, 2, 3, 4, 5);
    }

    private static void promise13SlyAndRefusals() {
        NobodyLookedYesterday hens = CHECK.farm(FIVE + "t0;h49;e00;e00;");
        CHECK.due("13: SLY goes elsewhere", hens.tonight(0), 3);
        CHECK.due("13: but is led as AWAY", hens.lead(0), 1);
        CHECK.due("13: as AWAY, too", hens.lead(3), 2);
        CHECK.due("13: as AWAY, never", hens.lead(1), -9);
        CHECK.refused("13: no such nest", hens, -1, () -> hens.lead(5));
        CHECK.refused("13: nest -1", hens, -1, () -> hens.lead(-1));
        NobodyLookedYesterday none = new NobodyLookedYesterday();
        CHECK.refused("13: no nests", none, -1, () -> none.lead(0));
    }

    private static void promise14Row() {
        NobodyLookedYesterday hens = new NobodyLookedYesterday();
        CHECK.refused("14: below", hens, -4, () -> hens.row(-1));
        CHECK.refused("14: above", hens, -6, () -> hens.row(6));
        for (int i = 1; i <= 8; i++) {
            CHECK.due("14: how many", hens.row(i % 6), i);
        }
        CHECK.refused("14: 8 are there", hens, -6, () -> hens.row(0));
        CHECK.refused("14: -4 ahead of -6", hens, -4, () -> hens.row(-1));
        CHECK.due("14: in the ROW", hens.count(8), 8);
    }

    private static void promise15Ways() {
        NobodyLookedYesterday hens = CHECK.farm(FIVE + "h02;");
        CHECK.due("15: no ROW: all", hens.ways(), 63);
        hens.row(0);
        CHECK.due("15: 0: NEAR, LOT, AWAY, SLY", hens.ways(), 29);
        hens.row(3);
        CHECK.due("15: 0 3: LOT, AWAY, SLY", hens.ways(), 28);
        hens.row(0);
        CHECK.due("15: 0 3 0: AWAY, SLY", hens.ways(), 24);
        CHECK.due("15: it stays", hens.count(8), 3);
        hens.row(2);
        CHECK.due("15: none", hens.ways(), 0);
        hens.clear();
        Check.rowOf(hens, 2, 2, 2, 2, 2, 2, 2, 2);
        CHECK.due("15: TOLD, eight nights", hens.ways(), 32);
        hens.clear();
        hens.look(0);
        Check.rowOf(hens, 3, 3);
        CHECK.due("15: from now on, one looked today", hens.ways(), 1);
        hens.clear();
        Check.rowOf(hens, 3, 0, 3, 0);
        CHECK.due("15: AWAY and SLY from now on", hens.ways(), 24);
        CHECK.due("15: she stays NEAR", hens.set(0, 0), 0);
        NobodyLookedYesterday none = new NobodyLookedYesterday();
        CHECK.refused("15: no nests", none, -3, none::ways);
    }

    private static void promise16Soon() {
        CHECK.due("16: one nest", CHECK.farm("n0000;").soon(), 0);
        CHECK.due("16: AWAY and SLY alike in 8 nights", CHECK.farm(FIVE + "h02;").soon(), 3);
        CHECK.due("16: SLY and AWAY unlike in the 3rd", CHECK.farm(FIVE + "h09;").soon(), 3);
        CHECK.due("16: LIKES and TOLD alike", CHECK.farm("n0009;n9900;h00;").soon(), 2);
        // AWAY 0 2 1 2 1 2 1 2; SLY 0 2 1 2 1 2 1 0.
        CHECK.due("16: AWAY and SLY unlike in the 8th", CHECK.farm("n1704;n8101;n6009;h05;").soon(), 8);
        NobodyLookedYesterday first = CHECK.farm("n0009;n9909;");
        first.night();
        // NEAR, LIKES, TOLD 0 0 0 ..; LOT of DAY 1, AWAY, SLY 1 0 1 ..
        CHECK.due("16: unlike in the 1st", first.soon(), 1);
        NobodyLookedYesterday shifted = CHECK.farm("n0009;n0909;h00;");
        shifted.look(0);
        // NEAR 1 1 1 ..; LIKES and TOLD 1 0 0 ..; LOT, AWAY, SLY 1 1 0 .. or 1 0 1 ..
        CHECK.due("16: one looked today", shifted.soon(), 3);
        // NEAR 0 0 0 ..; LOT, AWAY, SLY 0 1 0 ..; LIKES, TOLD 1 1 1 ..
        NobodyLookedYesterday near = CHECK.farm("n0000;n0109;h02;");
        CHECK.due("16: NEAR unlike in the 2nd", near.soon(), 2);
        near.look(0);
        near.night();
        near.night();
        // NEAR, LIKES, TOLD 1 1 1 ..; LOT of DAY 2, AWAY, SLY 0 1 0 ..
        CHECK.due("16: NEAR at 1 from DAY 2 on", near.soon(), 1);
        NobodyLookedYesterday late = CHECK.farm("n0009;n9909;n0909;n9009;n4509;n5409;h25;");
        CHECK.due("16: six days of LOT of FIGURE 5", late.soon(), 7);
        NobodyLookedYesterday none = new NobodyLookedYesterday();
        CHECK.refused("16: no nests", none, -3, none::soon);
    }

    private static void promise17Settle() {
        NobodyLookedYesterday hens = CHECK.farm(FIVE + "e08;e17;e39;");
        long[] got = new long[31];
        for (int n = 0; n <= 30; n++) {
            got[n] = hens.settle(n);
        }
        CHECK.dueAll("17", got, 3, 2, 2, 3, 4, 5, 6, 7, 8, 9, 9, 9, 9, 9, 9, 9, 9, 9, 9, 9, 9, 9, 9, 9, 9, 9, 9, 9, 9, 9, 9);
        hens.set(3, 3);
        CHECK.due("17: RAT 3", hens.settle(30), 3);
        CHECK.refused("17: below", hens, -4, () -> hens.settle(-1));
        CHECK.refused("17: above", hens, -6, () -> hens.settle(31));
        NobodyLookedYesterday none = new NobodyLookedYesterday();
        CHECK.refused("17: no nests", none, -3, () -> none.settle(0));
        CHECK.refused("17: -4 ahead of -3", none, -4, () -> none.settle(-1));
        CHECK.refused("17: -6 ahead of -3", none, -6, () -> none.settle(31));
    }

    private static void promise21Judge() {
        NobodyLookedYesterday hens = CHECK.farm(FIVE + "h30;");
        CHECK.due("21: no ROW: nothing is not so", hens.judge(), -9);
        Check.rowOf(hens, 0, 3, 0, 3, 0, 3, 0, 3);
        CHECK.due("21: all is so", hens.judge(), -9);
        CHECK.due("21: the ROW has none then", hens.count(8), 0);
        Check.rowOf(hens, 0, 3, 1, 2);
        CHECK.due("21: the first that is not so", hens.judge(), 2);
        CHECK.due("21: none then, too", hens.count(8), 0);
        Check.rowOf(hens, 5);
        CHECK.due("21: no such nest", hens.judge(), 0);
        Check.rowOf(hens, 0, 3, 0, 3, 0, 3, 0, 0);
        CHECK.due("21: the last", hens.judge(), 7);
        hens.look(0);
        Check.rowOf(hens, 3, 0, 0);
        CHECK.due("21: one looked today", hens.judge(), 2);
        NobodyLookedYesterday none = new NobodyLookedYesterday();
        none.row(0);
        CHECK.refused("21: no nests", none, -3, none::judge);
        CHECK.due("21: it stays", none.count(8), 1);
    }

    private static void promise22Seeds() {
        NobodyLookedYesterday one = CHECK.farm("n0000;");
        CHECK.due("22: one nest, 60 days", one.seeds(60, 1), 59);
        CHECK.due("22: one nest, 1 day", one.seeds(1, 1), 0);
        // DRAWS of seed 1: 16838, 5758, 10113, 17515, 31051, 5627, 23010, 7419, ..
        NobodyLookedYesterday two = CHECK.farm("n0007;n0007;h10;t0;e00;e00;e10;");
        CHECK.due("22: looks at 16838 modulo 2: 0", two.seeds(1, 1), 2);
        // She lays at 1 (only there nobody looked); 10113: 1; at 0; 31051: 1; at 0; 23010: 0: both of these.
        CHECK.due("22: two days", two.seeds(2, 1), 4);
        CHECK.due("22: three days", two.seeds(3, 1), 4);
        CHECK.due("22: four days", two.seeds(4, 1), 6);
        // 16838 modulo 3: nest 2; 5758 modulo 14, of nests 0 and 1 with 5 and 9: 4: nest 0; 10113 modulo 3: 0.
        NobodyLookedYesterday three = CHECK.farm("n0005;n0009;n0001;h10;t0;e23;");
        CHECK.due("22: nest by nest", three.seeds(2, 1), 2);
        three.set(0, 0);
        // 5758 modulo 40 is 38: nest 1; 10113 modulo 3: 0.
        CHECK.due("22: with WEIGHTS", three.seeds(2, 1), 1);
        three.look(0);
        // One looked at 0 today, then at 2: she lays at 1.
        three.set(0, 1);
        CHECK.due("22: one looked today", three.seeds(2, 1), 1);
        // One looks at 2; 5758 modulo 8 is 6: of LIKINGS 6 and 2 it is nest 1; one looks at 0.
        CHECK.due("22: at the edge of a nest", CHECK.farm("n0006;n0002;n0009;h10;").seeds(2, 1), 0);
        seedsRefusals(one);
    }

    private static void seedsRefusals(NobodyLookedYesterday one) {
        CHECK.refused("22: n 0", one, -4, () -> one.seeds(0, 5));
        CHECK.refused("22: n 61", one, -6, () -> one.seeds(61, 5));
        NobodyLookedYesterday none = new NobodyLookedYesterday();
        CHECK.refused("22: no nests", none, -3, () -> none.seeds(1, 5));
        CHECK.refused("22: -4 ahead of -3", none, -4, () -> none.seeds(0, 5));
        CHECK.refused("22: -6 ahead of -3", none, -6, () -> none.seeds(61, 5));
    }

    private static void promise23Clear() {
        NobodyLookedYesterday hens = new NobodyLookedYesterday();
        CHECK.due("23: none", hens.clear(), 0);
        Check.rowOf(hens, 1, 2, 3);
        CHECK.due("23: three", hens.clear(), 3);
        CHECK.due("23: none then", hens.count(8), 0);
        CHECK.due("23: anew", hens.row(4), 1);
    }

    /** What is only thought of changes nothing. */
    private static void nothingIsChanged() {
        NobodyLookedYesterday hens = CHECK.farm(FIVE + "t12;h43;e01;e12;");
        hens.look(1);
        hens.row(3);
        long[] before = Check.counts(hens);
        hens.plan(3, 0);
        hens.each(31, 30);
        hens.shut();
        hens.lead(4);
        hens.ways();
        hens.soon();
        hens.settle(30);
        hens.without(2);
        hens.put(1, 2, 3);
        hens.been(1);
        hens.seeds(60, 7);
        hens.tonight(0);
        hens.likely(0, 0);
        CHECK.dueAll("counts behind thoughts", Check.counts(hens), before);
        CHECK.due("KIND behind thoughts", hens.set(0, 4), 4);
        CHECK.due("EGGS behind thoughts", hens.nest(0, 4), 1);
    }
}
