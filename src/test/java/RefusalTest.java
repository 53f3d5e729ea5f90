/**
 * REFUSALS: "the call answers the number, the first that fits in the order in which it tells them;
 * nothing changes but how many there were". Each refusal of each promise, just out of bounds and far
 * out of them, and each pair of refusals that can fit at once.
 */
final class RefusalTest {
    private static final int LEAST = Integer.MIN_VALUE;
    private static final int GREATEST = Integer.MAX_VALUE;
    private static final Check CHECK = new Check("RefusalTest");

    public static void main(String[] args) {
        feed();
        nest();
        set();
        setOrder();
        look();
        lookOrder();
        night();
        tonight();
        likely();
        plan();
        each();
        shutAndLead();
        row();
        waysAndSoon();
        settle();
        without();
        put();
        been();
        judge();
        seeds();
        restore();
        longsLessTheNumber();
        theOthersRefuseNothing();
        CHECK.finish();
    }

    /** DAY 3, an IMAGE of DAY 1, looks today, EGGS of many AGES, a ROW, letters, each refusal but -5 heard. */
    private static NobodyLookedYesterday rich() {
        NobodyLookedYesterday hens = CHECK.farm("n0035;n5529;n9031;n1143;n2924;t20;h42;r8;e13;e10;e10;e49;");
        hens.look(1);
        hens.night();
        hens.image();
        hens.look(0);
        hens.night();
        hens.set(0, 3);
        hens.night();
        CHECK.tell(hens, "e05;e17;e17;e00;");
        hens.look(4);
        hens.look(3);
        Check.rowOf(hens, 0, 1, 2);
        hens.feed('t');
        hens.look(5);
        hens.tonight(2);
        hens.look(4);
        hens.row(-1);
        hens.row(6);
        return hens;
    }

    private static NobodyLookedYesterday six() {
        NobodyLookedYesterday hens = rich();
        hens.farm();
        CHECK.tell(hens, "n7788;");
        return hens;
    }

    /** No nests, but a ROW, letters and an IMAGE. */
    private static NobodyLookedYesterday bare() {
        NobodyLookedYesterday hens = CHECK.farm("t12;h34;r5;");
        hens.image();
        hens.set(1, 6);
        Check.rowOf(hens, 4, 5);
        hens.feed('h');
        return hens;
    }

    private static NobodyLookedYesterday fullOfLetters() {
        NobodyLookedYesterday hens = rich();
        for (int i = 0; i < 79; i++) {
            hens.feed("r4;".charAt((i + 2) % 3));
        }
        return hens;
    }

    private static NobodyLookedYesterday fullRow() {
        NobodyLookedYesterday hens = rich();
        Check.rowOf(hens, 3, 4, 5, 0, 1);
        return hens;
    }

    private static void feed() {
        Twins twins = new Twins(CHECK, "2 feed");
        twins.refused("-4 below 0", RefusalTest::rich, -4, h -> h.feed(-1));
        twins.refused("-4 far below", RefusalTest::rich, -4, h -> h.feed(LEAST));
        twins.refused("-6 above 255", RefusalTest::rich, -6, h -> h.feed(256));
        twins.refused("-6 far above", RefusalTest::rich, -6, h -> h.feed(GREATEST));
        twins.refused("-6 the 81st", RefusalTest::fullOfLetters, -6, h -> h.feed(';'));
        twins.refused("-6 twice over", RefusalTest::fullOfLetters, -6, h -> h.feed(256));
        twins.refused("-4 ahead of -6", RefusalTest::fullOfLetters, -4, h -> h.feed(-1));
    }

    private static void nest() {
        Twins twins = new Twins(CHECK, "4 nest");
        twins.refused("-1 of five", RefusalTest::rich, -1, h -> h.nest(5, 0));
        twins.refused("-1 of six", RefusalTest::six, -1, h -> h.nest(6, 7));
        twins.refused("-1 of none", RefusalTest::bare, -1, h -> h.nest(0, 0));
        twins.refused("-1 below", RefusalTest::rich, -1, h -> h.nest(-1, 0));
        twins.refused("-1 far below", RefusalTest::rich, -1, h -> h.nest(LEAST, 6));
        twins.refused("-1 far above", RefusalTest::rich, -1, h -> h.nest(GREATEST, 7));
        twins.refused("-1 a whole turn of bits above", RefusalTest::rich, -1, h -> h.nest(32, 7));
        twins.refused("-2 above", RefusalTest::rich, -2, h -> h.nest(0, 8));
        twins.refused("-2 below", RefusalTest::rich, -2, h -> h.nest(4, -1));
        twins.refused("-2 far above", RefusalTest::rich, -2, h -> h.nest(0, GREATEST));
        twins.refused("-2 far below", RefusalTest::rich, -2, h -> h.nest(0, LEAST));
        twins.refused("-1 ahead of -2", RefusalTest::rich, -1, h -> h.nest(5, 8));
    }

    private static void set() {
        Twins twins = new Twins(CHECK, "5 set");
        twins.refused("-2 above", RefusalTest::rich, -2, h -> h.set(4, 1));
        twins.refused("-2 below", RefusalTest::rich, -2, h -> h.set(-1, 1));
        twins.refused("-2 far above", RefusalTest::rich, -2, h -> h.set(GREATEST, 1));
        twins.refused("-2 far below", RefusalTest::rich, -2, h -> h.set(LEAST, 1));
        int[] least = {0, 0, 0, 1};
        int[] greatest = {5, 9, 40, 9};
        for (int i = 0; i < 4; i++) {
            int what = i;
            twins.refused("-4 of " + what, RefusalTest::rich, -4, h -> h.set(what, least[what] - 1));
            twins.refused("-4 far below, of " + what, RefusalTest::rich, -4, h -> h.set(what, LEAST));
            twins.refused("-6 of " + what, RefusalTest::rich, -6, h -> h.set(what, greatest[what] + 1));
            twins.refused("-6 far above, of " + what, RefusalTest::rich, -6, h -> h.set(what, GREATEST));
        }
    }

    private static void setOrder() {
        Twins twins = new Twins(CHECK, "5 set");
        twins.refused("-2 ahead of -4", RefusalTest::rich, -2, h -> h.set(4, -1));
        twins.refused("-2 ahead of -6", RefusalTest::rich, -2, h -> h.set(-1, 41));
        twins.refused("-4 without nests", RefusalTest::bare, -4, h -> h.set(3, 0));
    }

    private static void look() {
        Twins twins = new Twins(CHECK, "6 look");
        twins.refused("-1 of five", RefusalTest::rich, -1, h -> h.look(5));
        twins.refused("-1 of six", RefusalTest::six, -1, h -> h.look(6));
        twins.refused("-1 of none", RefusalTest::bare, -1, h -> h.look(0));
        twins.refused("-1 below", RefusalTest::rich, -1, h -> h.look(-1));
        twins.refused("-1 far below", RefusalTest::rich, -1, h -> h.look(LEAST));
        twins.refused("-1 far above", RefusalTest::rich, -1, h -> h.look(GREATEST));
        twins.refused("-1 a whole turn of bits above", RefusalTest::rich, -1, h -> h.look(36));
        twins.refused("-3 one looked there today", RefusalTest::rich, -3, h -> h.look(4));
        twins.refused("-6 a minute lacks", () -> withTime(8), -6, h -> h.look(0));
        twins.refused("-6 no TIME is left", () -> withTime(6), -6, h -> h.look(1));
        twins.refused("-6 less than none is left", () -> withTime(5), -6, h -> h.look(1));
    }

    /** Six minutes were looked today; nest 0 takes 3 of them. */
    private static NobodyLookedYesterday withTime(int time) {
        NobodyLookedYesterday hens = rich();
        hens.set(2, time);
        return hens;
    }

    private static void lookOrder() {
        Twins twins = new Twins(CHECK, "6 look");
        twins.refused("-3 ahead of -6", () -> withTime(0), -3, h -> h.look(3));
        twins.refused("-1 ahead of -6", () -> withTime(0), -1, h -> h.look(5));
        CHECK.due("6 look: the TIME just does", withTime(9).look(0), 3);
    }

    private static void night() {
        Twins twins = new Twins(CHECK, "7 night");
        twins.refused("-3 there are no nests", RefusalTest::bare, -3, NobodyLookedYesterday::night);
        twins.refused("-6 DAY is 9999", RefusalTest::lastDay, -6, NobodyLookedYesterday::night);
    }

    /** Far more than 512 calls; the document tells this refusal all the same. */
    private static NobodyLookedYesterday lastDay() {
        NobodyLookedYesterday hens = rich();
        while (hens.count(1) < 9998) {
            hens.night();
        }
        CHECK.due("7 night: DAY 9998 has one", hens.night() >= 0 ? 1 : 0, 1);
        CHECK.due("7 night: DAY 9999", hens.count(1), 9999);
        return hens;
    }

    private static void tonight() {
        Twins twins = new Twins(CHECK, "8 tonight");
        twins.refused("-2 above", RefusalTest::rich, -2, h -> h.tonight(2));
        twins.refused("-2 below", RefusalTest::rich, -2, h -> h.tonight(-1));
        twins.refused("-2 far above", RefusalTest::rich, -2, h -> h.tonight(GREATEST));
        twins.refused("-2 far below", RefusalTest::rich, -2, h -> h.tonight(LEAST));
        twins.refused("-3 TONIGHT", RefusalTest::bare, -3, h -> h.tonight(0));
        twins.refused("-3 MAY", RefusalTest::bare, -3, h -> h.tonight(1));
        twins.refused("-2 ahead of -3", RefusalTest::bare, -2, h -> h.tonight(2));
    }

    private static void likely() {
        Twins twins = new Twins(CHECK, "9 likely");
        twins.refusedLong("-1 of five", RefusalTest::rich, -1, h -> h.likely(5, 0));
        twins.refusedLong("-1 of six", RefusalTest::six, -1, h -> h.likely(6, 0));
        twins.refusedLong("-1 of none", RefusalTest::bare, -1, h -> h.likely(0, 1));
        twins.refusedLong("-1 below", RefusalTest::rich, -1, h -> h.likely(-1, 1));
        twins.refusedLong("-1 far below", RefusalTest::rich, -1, h -> h.likely(LEAST, 0));
        twins.refusedLong("-1 far above", RefusalTest::rich, -1, h -> h.likely(GREATEST, 0));
        twins.refusedLong("-2 above", RefusalTest::rich, -2, h -> h.likely(0, 2));
        twins.refusedLong("-2 below", RefusalTest::rich, -2, h -> h.likely(4, -1));
        twins.refusedLong("-2 far above", RefusalTest::rich, -2, h -> h.likely(0, GREATEST));
        twins.refusedLong("-2 far below", RefusalTest::rich, -2, h -> h.likely(0, LEAST));
        twins.refusedLong("-1 ahead of -2", RefusalTest::rich, -1, h -> h.likely(5, 2));
    }

    private static void plan() {
        Twins twins = new Twins(CHECK, "10 plan");
        twins.refused("-2 above", RefusalTest::rich, -2, h -> h.plan(1, 2));
        twins.refused("-2 below", RefusalTest::rich, -2, h -> h.plan(3, -1));
        twins.refused("-2 far above", RefusalTest::rich, -2, h -> h.plan(1, GREATEST));
        twins.refused("-2 far below", RefusalTest::rich, -2, h -> h.plan(1, LEAST));
        twins.refused("-4 below 1", RefusalTest::rich, -4, h -> h.plan(0, 0));
        twins.refused("-4 far below", RefusalTest::rich, -4, h -> h.plan(LEAST, 1));
        twins.refused("-6 above 3", RefusalTest::rich, -6, h -> h.plan(4, 0));
        twins.refused("-6 far above", RefusalTest::rich, -6, h -> h.plan(GREATEST, 1));
        twins.refused("-3 there are no nests", RefusalTest::bare, -3, h -> h.plan(1, 0));
        twins.refused("-3 no first set", RefusalTest::bare, -3, h -> h.plan(3, 1));
        twins.refused("-2 ahead of -4", RefusalTest::bare, -2, h -> h.plan(0, 2));
        twins.refused("-2 ahead of -6", RefusalTest::bare, -2, h -> h.plan(4, -1));
        twins.refused("-2 ahead of -3", RefusalTest::bare, -2, h -> h.plan(1, 2));
        twins.refused("-4 ahead of -3", RefusalTest::bare, -4, h -> h.plan(0, 0));
        twins.refused("-6 ahead of -3", RefusalTest::bare, -6, h -> h.plan(4, 0));
    }

    private static void each() {
        Twins twins = new Twins(CHECK, "11 each");
        twins.refused("-1 nest 5 of five", RefusalTest::rich, -1, h -> h.each(32, 1));
        twins.refused("-1 nest 6 of six", RefusalTest::six, -1, h -> h.each(64, 1));
        twins.refused("-1 nest 0 of none", RefusalTest::bare, -1, h -> h.each(1, 1));
        twins.refused("-1 with nests that are there", RefusalTest::rich, -1, h -> h.each(63, 30));
        twins.refused("-1 the sign's bit alone", RefusalTest::rich, -1, h -> h.each(LEAST, 1));
        twins.refused("-1 all bits", RefusalTest::six, -1, h -> h.each(-1, 1));
        twins.refused("-1 all bits but the sign's", RefusalTest::six, -1, h -> h.each(GREATEST, 1));
        twins.refused("-4 below 1", RefusalTest::rich, -4, h -> h.each(31, 0));
        twins.refused("-4 far below", RefusalTest::rich, -4, h -> h.each(0, LEAST));
        twins.refused("-6 above 30", RefusalTest::rich, -6, h -> h.each(0, 31));
        twins.refused("-6 far above", RefusalTest::rich, -6, h -> h.each(31, GREATEST));
        twins.refused("-3 there are no nests", RefusalTest::bare, -3, h -> h.each(0, 1));
        twins.refused("-1 ahead of -4", RefusalTest::rich, -1, h -> h.each(32, 0));
        twins.refused("-1 ahead of -6", RefusalTest::rich, -1, h -> h.each(32, 31));
        twins.refused("-1 ahead of -3", RefusalTest::bare, -1, h -> h.each(-1, 1));
        twins.refused("-4 ahead of -3", RefusalTest::bare, -4, h -> h.each(0, 0));
        twins.refused("-6 ahead of -3", RefusalTest::bare, -6, h -> h.each(0, 31));
    }

    private static void shutAndLead() {
        new Twins(CHECK, "12 shut").refused("-3", RefusalTest::bare, -3, NobodyLookedYesterday::shut);
        Twins twins = new Twins(CHECK, "13 lead");
        twins.refused("-1 of five", RefusalTest::rich, -1, h -> h.lead(5));
        twins.refused("-1 of six", RefusalTest::six, -1, h -> h.lead(6));
        twins.refused("-1 of none", RefusalTest::bare, -1, h -> h.lead(0));
        twins.refused("-1 below", RefusalTest::rich, -1, h -> h.lead(-1));
        // That is how count tells that LAST is none.
        twins.refused("-1, not LAST", RefusalTest::bare, -1, h -> h.lead(-9));
        twins.refused("-1 far below", RefusalTest::rich, -1, h -> h.lead(LEAST));
        twins.refused("-1 far above", RefusalTest::rich, -1, h -> h.lead(GREATEST));
    }

    private static void row() {
        Twins twins = new Twins(CHECK, "14 row");
        twins.refused("-4 below 0", RefusalTest::rich, -4, h -> h.row(-1));
        twins.refused("-4 far below", RefusalTest::rich, -4, h -> h.row(LEAST));
        twins.refused("-6 above 5", RefusalTest::rich, -6, h -> h.row(6));
        twins.refused("-6 far above", RefusalTest::rich, -6, h -> h.row(GREATEST));
        twins.refused("-6 the 9th", RefusalTest::fullRow, -6, h -> h.row(0));
        twins.refused("-6 twice over", RefusalTest::fullRow, -6, h -> h.row(6));
        twins.refused("-4 ahead of -6", RefusalTest::fullRow, -4, h -> h.row(-1));
    }

    private static void waysAndSoon() {
        new Twins(CHECK, "15 ways").refused("-3, the ROW stays", RefusalTest::bare, -3, NobodyLookedYesterday::ways);
        new Twins(CHECK, "16 soon").refused("-3", RefusalTest::bare, -3, NobodyLookedYesterday::soon);
    }

    private static void settle() {
        Twins twins = new Twins(CHECK, "17 settle");
        twins.refused("-4 below 0", RefusalTest::rich, -4, h -> h.settle(-1));
        twins.refused("-4 far below", RefusalTest::rich, -4, h -> h.settle(LEAST));
        twins.refused("-6 above 30", RefusalTest::rich, -6, h -> h.settle(31));
        twins.refused("-6 far above", RefusalTest::rich, -6, h -> h.settle(GREATEST));
        twins.refused("-3 behind no nights, too", RefusalTest::bare, -3, h -> h.settle(0));
        twins.refused("-4 ahead of -3", RefusalTest::bare, -4, h -> h.settle(-1));
        twins.refused("-6 ahead of -3", RefusalTest::bare, -6, h -> h.settle(31));
    }

    private static void without() {
        Twins twins = new Twins(CHECK, "18 without");
        twins.refused("-1 of five", RefusalTest::rich, -1, h -> h.without(5));
        twins.refused("-1 of six", RefusalTest::six, -1, h -> h.without(6));
        twins.refused("-1 of none", RefusalTest::bare, -1, h -> h.without(0));
        twins.refused("-1 below", RefusalTest::rich, -1, h -> h.without(-1));
        twins.refused("-1 far below", RefusalTest::rich, -1, h -> h.without(LEAST));
        twins.refused("-1 far above", RefusalTest::rich, -1, h -> h.without(GREATEST));
    }

    private static void put() {
        Twins twins = new Twins(CHECK, "19 put");
        twins.refused("-4 x", RefusalTest::rich, -4, h -> h.put(-1, 0, 0));
        twins.refused("-4 y", RefusalTest::rich, -4, h -> h.put(0, -1, 0));
        twins.refused("-4 liking", RefusalTest::rich, -4, h -> h.put(0, 0, -1));
        twins.refused("-4 far below", RefusalTest::rich, -4, h -> h.put(LEAST, LEAST, LEAST));
        twins.refused("-6 x", RefusalTest::rich, -6, h -> h.put(10, 9, 9));
        twins.refused("-6 y", RefusalTest::rich, -6, h -> h.put(9, 10, 9));
        twins.refused("-6 liking", RefusalTest::rich, -6, h -> h.put(9, 9, 10));
        twins.refused("-6 far above", RefusalTest::rich, -6, h -> h.put(GREATEST, GREATEST, GREATEST));
        twins.refused("-6 without nests", RefusalTest::bare, -6, h -> h.put(10, 0, 0));
        twins.refused("-6 six nests", RefusalTest::six, -6, h -> h.put(0, 0, 0));
        twins.refused("-4 y ahead of -6 x", RefusalTest::rich, -4, h -> h.put(10, -1, 0));
        twins.refused("-4 liking ahead of -6 x, y", RefusalTest::rich, -4, h -> h.put(10, 10, -1));
        twins.refused("-4 ahead of six nests", RefusalTest::six, -4, h -> h.put(-1, 0, 0));
    }

    private static void been() {
        Twins twins = new Twins(CHECK, "20 been");
        twins.refused("-4 below 0", RefusalTest::rich, -4, h -> h.been(-1));
        twins.refused("-4 far below", RefusalTest::rich, -4, h -> h.been(LEAST));
        twins.refused("-4 without nests", RefusalTest::bare, -4, h -> h.been(-1));
        twins.refused("-6 above 9", RefusalTest::rich, -6, h -> h.been(10));
        twins.refused("-6 far above", RefusalTest::rich, -6, h -> h.been(GREATEST));
        twins.refused("-6 without nests", RefusalTest::bare, -6, h -> h.been(10));
    }

    private static void judge() {
        new Twins(CHECK, "21 judge").refused("-3 (it stays)", RefusalTest::bare, -3, NobodyLookedYesterday::judge);
        NobodyLookedYesterday hens = bare();
        hens.judge();
        CHECK.due("21 judge: the ROW stays", hens.clear(), 2);
    }

    private static void seeds() {
        Twins twins = new Twins(CHECK, "22 seeds");
        twins.refused("-4 below 1", RefusalTest::rich, -4, h -> h.seeds(0, 1));
        twins.refused("-4 far below", RefusalTest::rich, -4, h -> h.seeds(LEAST, 1));
        twins.refused("-6 above 60", RefusalTest::rich, -6, h -> h.seeds(61, 1));
        twins.refused("-6 far above", RefusalTest::rich, -6, h -> h.seeds(GREATEST, 1));
        twins.refused("-3 there are no nests", RefusalTest::bare, -3, h -> h.seeds(1, 1));
        twins.refused("-4 ahead of -3", RefusalTest::bare, -4, h -> h.seeds(0, 1));
        twins.refused("-6 ahead of -3", RefusalTest::bare, -6, h -> h.seeds(61, 1));
    }

    private static void restore() {
        Twins twins = new Twins(CHECK, "25 restore");
        twins.refused("-3 there is none", NobodyLookedYesterday::new, -3, NobodyLookedYesterday::restore);
        twins.refused("-3 with nests, too", () -> {
            NobodyLookedYesterday hens = CHECK.farm("n1234;e05;");
            hens.night();
            return hens;
        }, -3, NobodyLookedYesterday::restore);
    }

    private static void longsLessTheNumber() {
        CHECK.due("9: -1 as a long", rich().likely(5, 0), 4000000000000000001L);
        CHECK.due("9: -2 as a long", rich().likely(0, 2), 4000000000000000002L);
    }

    /** FAULTS and answers of -9 are no REFUSALS ("nothing is counted"). */
    private static void theOthersRefuseNothing() {
        NobodyLookedYesterday hens = CHECK.farm("n0009;");
        hens.farm();
        Check.read(hens, "n");
        Check.read(hens, "r0;");
        hens.without(0);
        hens.been(0);
        hens.nest(0, 5);
        hens.judge();
        hens.clear();
        hens.count(10);
        hens.count(-1);
        CHECK.tell(hens, "n0009;n0009;");
        hens.shut();
        hens.lead(2);
        for (int refusal = 11; refusal <= 16; refusal++) {
            CHECK.due("26: no refusal " + refusal, hens.count(refusal), 0);
        }
    }
}
