/** Promises 1 and 4 to 7, 24 to 26: what there is, looks, nights, the image, the counts. */
final class StateTest {
    /** Points (0,0) (5,5) (9,0) (1,1) (2,9); MINUTES 3 2 3 4 2; LIKING 5 9 1 3 4. */
    private static final String FIVE = "n0035;n5529;n9031;n1143;n2924;";
    private static final Check CHECK = new Check("StateTest");

    public static void main(String[] args) {
        promise1NewObject();
        promise4Nest();
        promise5Set();
        promise6Look();
        promise6TimeMadeLess();
        promise7Night();
        promise7Rat();
        promise7LastDay();
        promise24And25Image();
        promise26Count();
        CHECK.finish();
    }

    private static void promise1NewObject() {
        NobodyLookedYesterday hens = new NobodyLookedYesterday();
        CHECK.dueAll("1: counts", Check.counts(hens),
            0, 0, 0, -9, 0, 0, 10, 0, 0, 0, 0, 0, 0, 0, 0, 0);
        CHECK.due("1: KIND", hens.set(0, 0), 0);
        CHECK.due("1: FIGURE", hens.set(1, 0), 0);
        CHECK.due("1: TIME", hens.set(2, 10), 10);
        CHECK.due("1: RAT", hens.set(3, 9), 9);
        NobodyLookedYesterday other = CHECK.farm(FIVE);
        CHECK.due("1: objects share nothing", hens.count(0), 0);
        CHECK.due("1: the other's", other.count(0), 5);
    }

    private static void promise4Nest() {
        NobodyLookedYesterday hens = CHECK.farm(FIVE + "e13;e10;e10;e49;");
        CHECK.due("4: x", hens.nest(4, 0), 2);
        CHECK.due("4: y", hens.nest(4, 1), 9);
        CHECK.due("4: MINUTES", hens.nest(3, 2), 4);
        CHECK.due("4: LIKING", hens.nest(1, 3), 9);
        CHECK.due("4: EGGS", hens.nest(1, 4), 3);
        CHECK.due("4: no EGGS", hens.nest(0, 4), 0);
        CHECK.due("4: greatest AGE", hens.nest(1, 5), 3);
        CHECK.due("4: greatest AGE 9", hens.nest(4, 5), 9);
        CHECK.due("4: no AGE", hens.nest(0, 5), -9);
        CHECK.due("4: WEIGHT of nest 0, none LAST", hens.nest(0, 6), 20);
        CHECK.due("4: WEIGHT", hens.nest(3, 6), 18);
        CHECK.due("4: not looked", hens.nest(3, 7), 0);
        hens.look(3);
        CHECK.due("4: looked", hens.nest(3, 7), 1);
        CHECK.due("4: WEIGHT where she may not", hens.nest(3, 6), 0);
        CHECK.refused("4: nest 5", hens, -1, () -> hens.nest(5, 0));
        CHECK.refused("4: nest -1", hens, -1, () -> hens.nest(-1, 0));
        CHECK.refused("4: what 8", hens, -2, () -> hens.nest(4, 8));
        CHECK.refused("4: what -1", hens, -2, () -> hens.nest(4, -1));
        CHECK.refused("4: -1 ahead of -2", hens, -1, () -> hens.nest(5, 8));
        NobodyLookedYesterday bare = new NobodyLookedYesterday();
        CHECK.refused("4: no nest at all", bare, -1, () -> bare.nest(0, 0));
    }

    private static void promise5Set() {
        NobodyLookedYesterday hens = CHECK.farm(FIVE);
        int[] at = {0, 0, 10, 9};
        int[] least = {0, 0, 0, 1};
        int[] greatest = {5, 9, 40, 9};
        for (int i = 0; i < 4; i++) {
            int what = i;
            CHECK.due("5: what it was " + what, hens.set(what, greatest[what]), at[what]);
            CHECK.due("5: the greatest " + what, hens.set(what, least[what]), greatest[what]);
            CHECK.due("5: the least " + what, hens.set(what, greatest[what]), least[what]);
            CHECK.refused("5: below " + what, hens, -4, () -> hens.set(what, least[what] - 1));
            CHECK.refused("5: above " + what, hens, -6, () -> hens.set(what, greatest[what] + 1));
            CHECK.refused("5: far below " + what, hens, -4, () -> hens.set(what, Integer.MIN_VALUE));
            CHECK.refused("5: far above " + what, hens, -6, () -> hens.set(what, Integer.MAX_VALUE));
            CHECK.due("5: refused, it stays " + what, hens.set(what, greatest[what]), greatest[what]);
        }
        CHECK.due("5: TIME is there", hens.count(6), 40);
        CHECK.refused("5: what 4", hens, -2, () -> hens.set(4, 0));
        CHECK.refused("5: what -1", hens, -2, () -> hens.set(-1, 0));
        CHECK.refused("5: -2 ahead of -4", hens, -2, () -> hens.set(4, -1));
        CHECK.refused("5: -2 ahead of -6", hens, -2, () -> hens.set(4, 99));
    }

    private static void promise6Look() {
        NobodyLookedYesterday hens = CHECK.farm(FIVE + "t9;e00;e09;e33;");
        CHECK.due("6: found", hens.look(0), 2);
        CHECK.due("6: taken", hens.nest(0, 4), 0);
        CHECK.due("6: TIME left", hens.count(6), 6);
        CHECK.due("6: LOOKED", hens.count(4), 1);
        CHECK.due("6: found so far", hens.count(9), 2);
        CHECK.due("6: nothing there", hens.look(4), 0);
        CHECK.due("6: TIME just does", hens.look(3), 1);
        CHECK.due("6: TIME is gone", hens.count(6), 0);
        CHECK.due("6: LOOKED 0, 3, 4", hens.count(4), 25);
        CHECK.due("6: found so far, all", hens.count(9), 3);
        CHECK.refused("6: TIME does not do", hens, -6, () -> hens.look(1));
        CHECK.refused("6: -3 ahead of -6", hens, -3, () -> hens.look(0));
        CHECK.refused("6: no such nest", hens, -1, () -> hens.look(5));
        CHECK.refused("6: below", hens, -1, () -> hens.look(-1));
        hens.night();
        CHECK.due("6: next day again", hens.look(0), 0);
        NobodyLookedYesterday quick = CHECK.farm("n0000;t0;");
        CHECK.due("6: no MINUTES in no TIME", quick.look(0), 0);
    }

    private static void promise6TimeMadeLess() {
        NobodyLookedYesterday hens = CHECK.farm(FIVE + "n1100;");
        hens.look(3);
        hens.set(2, 3);
        CHECK.due("6: TIME less MINUTES", hens.count(6), -1);
        CHECK.refused("6: less than none does not do", hens, -6, () -> hens.look(5));
    }

    private static void promise7Night() {
        NobodyLookedYesterday hens = CHECK.farm(FIVE + "t20;e00;e18;e17;");
        hens.look(0);
        hens.look(4);
        CHECK.due("7: nearest where nobody looked", hens.night(), 3);
        CHECK.dueAll("7: counts", Check.counts(hens), 5, 1, 2, 3, 0, 17, 20, 0, 0, 1, 0, 0, 0, 0, 0, 0);
        CHECK.due("7: a new EGG", hens.nest(3, 5), 0);
        CHECK.due("7: of AGE 8 is gone", hens.nest(1, 4), 1);
        CHECK.due("7: of AGE 7 is 8", hens.nest(1, 5), 8);
        CHECK.due("7: from LAST", hens.night(), 3);
        CHECK.due("7: BEFORE none", hens.count(5), 0);
        CHECK.due("7: two there", hens.nest(3, 4), 2);
        CHECK.due("7: the older", hens.nest(3, 5), 1);
        for (int i = 0; i < 5; i++) {
            hens.look(i);
        }
        CHECK.due("7: looked at all: any", hens.night(), 3);
        CHECK.due("7: BEFORE all", hens.count(5), 31);
        NobodyLookedYesterday none = new NobodyLookedYesterday();
        CHECK.refused("7: no nests", none, -3, none::night);
        NobodyLookedYesterday sly = CHECK.farm("n0000;n0900;h41;e00;e00;e00;e00;e00;e00;e00;e00;e00;r1;");
        CHECK.due("7: by the EGGS ahead of it", sly.nest(0, 6), 20);
        CHECK.due("7: as they were", sly.night(), 0);
    }

    private static void promise7Rat() {
        NobodyLookedYesterday hens = CHECK.farm("n0000;r1;e00;e09;");
        hens.night();
        CHECK.due("7: RAT 1 leaves just the new one", hens.count(2), 1);
        hens.set(3, 3);
        CHECK.tell(hens, "e01;e02;e05;");
        CHECK.due("7: it comes by night", hens.count(2), 4);
        hens.night();
        CHECK.due("7: RAT 3 leaves AGES 0, 1, 2", hens.count(2), 3);
        CHECK.due("7: the oldest", hens.nest(0, 5), 2);
    }

    /** No object comes to DAY 9999 in the 512 calls that are promised; the refusal stands in the document all the same. */
    private static void promise7LastDay() {
        NobodyLookedYesterday hens = CHECK.farm("n0000;");
        for (int i = 0; i < 9999; i++) {
            hens.night();
        }
        CHECK.due("7: DAY", hens.count(1), 9999);
        CHECK.refused("7: DAY is 9999", hens, -6, hens::night);
    }

    private static void promise24And25Image() {
        NobodyLookedYesterday hens = CHECK.farm(FIVE + "t20;h32;r4;e12;");
        CHECK.refused("25: there is none", hens, -3, hens::restore);
        hens.look(1);
        hens.night();
        hens.look(0);
        hens.row(3);
        hens.feed('n');
        CHECK.due("24: DAY", hens.image(), 1);
        long[] kept = Check.counts(hens);
        int[] nest0 = new int[8];
        for (int what = 0; what < 8; what++) {
            nest0[what] = hens.nest(0, what);
        }
        hens.feed(';');
        hens.farm();
        CHECK.tell(hens, "n9999;h00;t9;r9;e00;e35;");
        hens.night();
        hens.look(3);
        hens.row(4);
        hens.row(6);
        hens.feed('h');
        hens.feed('1');
        CHECK.due("25: DAY", hens.restore(), 1);
        long[] want = kept.clone();
        want[7] = 2;
        want[8] = 2;
        want[15] = 1;
        CHECK.dueAll("25: but letters, ROW, REFUSALS", Check.counts(hens), want);
        for (int what = 0; what < 8; what++) {
            CHECK.due("25: nest 0 " + what, hens.nest(0, what), nest0[what]);
        }
        CHECK.due("25: KIND", hens.set(0, 3), 3);
        CHECK.due("25: FIGURE", hens.set(1, 2), 2);
        CHECK.due("25: TIME", hens.set(2, 20), 20);
        CHECK.due("25: RAT", hens.set(3, 4), 4);
        hens.night();
        CHECK.due("25: again", hens.restore(), 1);
        hens.night();
        CHECK.due("24: anew", hens.image(), 2);
        hens.night();
        CHECK.due("25: the newer", hens.restore(), 2);
        CHECK.due("24: without nests", new NobodyLookedYesterday().image(), 0);
        NobodyLookedYesterday bare = new NobodyLookedYesterday();
        bare.image();
        CHECK.tell(bare, "n0000;e00;");
        bare.look(0);
        CHECK.due("25: no nests again", bare.restore(), 0);
        CHECK.due("25: none", bare.count(0), 0);
        CHECK.tell(bare, "n0000;");
        CHECK.due("25: no EGG is left over", bare.count(2), 0);
        CHECK.due("25: no look is left over", bare.nest(0, 7), 0);
    }

    private static void promise26Count() {
        NobodyLookedYesterday hens = CHECK.farm(FIVE + "t20;e11;e11;e42;");
        hens.look(1);
        hens.night();
        hens.look(4);
        hens.row(0);
        hens.row(5);
        hens.feed('n');
        hens.look(7);
        hens.tonight(2);
        hens.tonight(3);
        hens.look(4);
        hens.row(-1);
        hens.row(6);
        hens.row(7);
        hens.row(8);
        CHECK.dueAll("26", Check.counts(hens), 5, 1, 1, 0, 16, 2, 18, 1, 2, 3, 1, 2, 1, 1, 0, 3);
        int[] others = {-1, 10, 17, Integer.MIN_VALUE, Integer.MAX_VALUE};
        for (int what : others) {
            CHECK.due("26: another what " + what, hens.count(what), -9);
        }
        CHECK.due("26: that is no refusal", hens.count(12), 2);
    }
}
