/** The edges of promises 15 to 17 and 21: WAYS, SOON, SETTLE, JUDGED. RefusalTest has what they refuse. */
final class RowEdgeTest {
    private static final String FIVE = "n0035;n5529;n9031;n1143;n2924;";
    private static final Check CHECK = new Check("RowEdgeTest");

    public static void main(String[] args) {
        waysOfNoRow();
        waysOfAFullRow();
        waysOfTheEighthNight();
        waysOfNestsThatAreNotThere();
        waysFigureAsItIs();
        waysFromNowOn();
        waysLeaveTheRow();
        soonAllAlike();
        soonInTheFirstNight();
        soonInTheEighthNight();
        soonButForTheNinthNight();
        soonOfTheLastPair();
        soonFromNowOn();
        settleOfNoNights();
        settleOfThirtyNights();
        settleByTheRat();
        settleOfOneNest();
        judgeOfNoRow();
        judgeOfAFullRow();
        judgeEachPlace();
        judgeOfNestsThatAreNotThere();
        judgeEmptiesTheRow();
        judgeFromTonightOn();
        judgeGoesByHerKind();
        nothingIsDone();
        CHECK.finish();
    }

    private static int ways(NobodyLookedYesterday hens, int... row) {
        hens.clear();
        Check.rowOf(hens, row);
        return hens.ways();
    }

    private static int judge(NobodyLookedYesterday hens, int... row) {
        hens.clear();
        Check.rowOf(hens, row);
        return hens.judge();
    }

    /** An empty ROW: each KIND lays so. */
    private static void waysOfNoRow() {
        CHECK.due("15: no ROW", CHECK.farm(FIVE).ways(), 63);
        CHECK.due("15: no ROW, one nest", CHECK.farm("n0000;").ways(), 63);
        NobodyLookedYesterday hens = CHECK.farm(FIVE);
        hens.row(4);
        CHECK.due("15: a ROW", hens.ways(), 0);
        hens.clear();
        CHECK.due("15: no ROW any more", hens.ways(), 63);
    }

    /** "8 at most". */
    private static void waysOfAFullRow() {
        CHECK.due("15: one nest, eight nights", ways(CHECK.farm("n0000;"), 0, 0, 0, 0, 0, 0, 0, 0), 63);
        NobodyLookedYesterday hens = CHECK.farm("n0001;n0002;h50;");
        CHECK.due("15: NEAR, TOLD", ways(hens, 0, 0, 0, 0, 0, 0, 0, 0), 33);
        CHECK.due("15: LIKES", ways(hens, 1, 1, 1, 1, 1, 1, 1, 1), 2);
        CHECK.due("15: LOT, AWAY, SLY", ways(hens, 0, 1, 0, 1, 0, 1, 0, 1), 28);
    }

    /** AWAY 0 2 1 2 1 2 1 2; SLY 0 2 1 2 1 2 1 0. */
    private static void waysOfTheEighthNight() {
        NobodyLookedYesterday hens = CHECK.farm("n1704;n8101;n6009;h05;");
        CHECK.due("15: seven nights", ways(hens, 0, 2, 1, 2, 1, 2, 1), 24);
        CHECK.due("15: eight, AWAY", ways(hens, 0, 2, 1, 2, 1, 2, 1, 2), 8);
        CHECK.due("15: eight, SLY", ways(hens, 0, 2, 1, 2, 1, 2, 1, 0), 16);
        CHECK.due("15: eight, none", ways(hens, 0, 2, 1, 2, 1, 2, 1, 1), 0);
    }

    private static void waysOfNestsThatAreNotThere() {
        NobodyLookedYesterday hens = CHECK.farm("n0000;");
        CHECK.due("15: nest 5 of one", ways(hens, 5), 0);
        CHECK.due("15: nest 1 of one, at the end", ways(hens, 0, 0, 0, 0, 0, 0, 0, 1), 0);
    }

    /** "FIGURE as it is", KIND is no matter. */
    private static void waysFigureAsItIs() {
        NobodyLookedYesterday hens = CHECK.farm("n0000;n0000;n0000;h20;");
        CHECK.due("15: FIGURE 0: LOT", ways(hens, 0, 1, 2), 4);
        for (int kind = 0; kind < 6; kind++) {
            hens.set(0, kind);
            CHECK.due("15: as KIND " + kind, hens.ways(), 4);
        }
        hens.set(1, 1);
        CHECK.due("15: FIGURE 1", hens.ways(), 16);
        CHECK.due("15: FIGURE 1: LOT", ways(hens, 0, 2, 1), 4);
        CHECK.due("15: FIGURE 1: TOLD", ways(hens, 1, 1, 1), 32);
    }

    /** "from now on": today's looks tell in the first night, none "if nobody looked any more". */
    private static void waysFromNowOn() {
        NobodyLookedYesterday hens = CHECK.farm("n0009;n5500;h00;");
        hens.look(0);
        CHECK.due("15: tonight at 1", ways(hens, 1), 63);
        CHECK.due("15: tonight not at 0", ways(hens, 0), 0);
        CHECK.due("15: 1 1: NEAR, LOT of DAY 1", ways(hens, 1, 1), 5);
        CHECK.due("15: 1 0: LIKES, AWAY, SLY, TOLD", ways(hens, 1, 0), 58);
        hens.night();
        CHECK.due("15: from DAY 1 on", ways(hens, 1, 0, 1), 4);
    }

    /** "(bits; it stays)". */
    private static void waysLeaveTheRow() {
        NobodyLookedYesterday hens = CHECK.farm("n0000;n0000;");
        Check.rowOf(hens, 0, 1, 0);
        hens.ways();
        hens.ways();
        CHECK.due("15: three", hens.count(8), 3);
        CHECK.due("15: as it was", hens.ways(), 28);
        CHECK.due("15: a fourth", hens.row(1), 4);
    }

    /** "0 all lay alike". */
    private static void soonAllAlike() {
        CHECK.due("16: one nest", CHECK.farm("n5595;h09;e00;").soon(), 0);
        CHECK.due("16: one nest, looked at", lookedAt("n5505;", 0).soon(), 0);
        CHECK.due("16: two are never alike, AWAY goes", CHECK.farm("n0000;n0000;").soon(), 2);
    }

    private static NobodyLookedYesterday lookedAt(String farm, int nest) {
        NobodyLookedYesterday hens = CHECK.farm(farm);
        hens.look(nest);
        return hens;
    }

    /** "the least number of nights (1 .. 8)". */
    private static void soonInTheFirstNight() {
        NobodyLookedYesterday hens = CHECK.farm("n0000;n0000;");
        hens.night();
        // NEAR, LIKES, TOLD at 0 for good; LOT of DAY 1, AWAY, SLY at 1, 0, 1 ..
        CHECK.due("16: the first night", hens.soon(), 1);
    }

    private static void soonInTheEighthNight() {
        CHECK.due("16: AWAY and SLY unlike in the 8th", CHECK.farm("n1704;n8101;n6009;h05;").soon(), 8);
    }

    /** "but for those that lay alike in 8 nights": AWAY 0 2 1 2 1 2 1 2 1, SLY 0 2 1 2 1 2 1 2 0. */
    private static void soonButForTheNinthNight() {
        NobodyLookedYesterday hens = CHECK.farm("n0604;n9007;n9904;h02;");
        CHECK.due("16: unlike in the 9th alone", hens.soon(), 2);
        CHECK.due("15: alike in eight", ways(hens, 0, 2, 1, 2, 1, 2, 1, 2), 24);
        CHECK.due("16: the others unlike in the 4th", CHECK.farm("n9708;n0303;n0600;h04;").soon(), 4);
    }

    /** All but two are unlike at once: the last two tell. LIKES 1 1 1, TOLD of FIGURE 0: 0 0 0. */
    private static void soonOfTheLastPair() {
        // NEAR 0 0 ..; LIKES, TOLD 1 1 ..; LOT 0 0 0 .. (DAY times 2); AWAY, SLY 0 1 0 ..
        CHECK.due("16: NEAR and LOT alike for good", CHECK.farm("n0000;n0109;h01;").soon(), 2);
        // LOT 0 1 0 1 0 1 0 1 as AWAY and SLY; NEAR 0 0; LIKES and TOLD 1 1.
        CHECK.due("16: LOT and AWAY alike for good", CHECK.farm("n0000;n0109;h02;").soon(), 2);
        // LOT 0 1 2 0, AWAY and SLY 0 1 0 1: the 3rd.
        CHECK.due("16: LOT and AWAY unlike in the 3rd", CHECK.farm("n0000;n0109;n9900;h03;").soon(), 3);
    }

    private static void soonFromNowOn() {
        NobodyLookedYesterday hens = lookedAt("n0000;n0000;", 0);
        // NEAR 1 1; LIKES, TOLD 1 0 0; LOT 1 1 0; AWAY, SLY 1 0 1: the 3rd.
        CHECK.due("16: today's look tells", hens.soon(), 3);
        NobodyLookedYesterday later = lookedAt("n0000;n0109;h02;", 0);
        later.night();
        later.night();
        // NEAR, LIKES, TOLD at 1 for good; LOT of DAY 2, AWAY, SLY 0 1 0 ..
        CHECK.due("16: from LAST 1, on DAY 2", later.soon(), 1);
    }

    /** n 0: what lies about now, be it as old as it may. */
    private static void settleOfNoNights() {
        NobodyLookedYesterday hens = CHECK.farm(FIVE + "r1;e09;e09;e45;");
        CHECK.due("17: now", hens.settle(0), 3);
        CHECK.due("17: behind one NIGHT", hens.settle(1), 1);
        CHECK.due("17: none", CHECK.farm(FIVE).settle(0), 0);
    }

    private static void settleOfThirtyNights() {
        NobodyLookedYesterday hens = CHECK.farm(FIVE);
        for (int n = 0; n <= 30; n++) {
            CHECK.due("17: behind " + n, hens.settle(n), Math.min(n, 9));
        }
        CHECK.due("17: thirty-one", hens.settle(31), -6);
    }

    private static void settleByTheRat() {
        for (int rat = 1; rat <= 9; rat++) {
            NobodyLookedYesterday hens = CHECK.farm("n0000;r" + rat + ";");
            CHECK.due("17: RAT " + rat + ", one less", hens.settle(rat - 1), rat - 1);
            CHECK.due("17: RAT " + rat, hens.settle(rat), rat);
            CHECK.due("17: RAT " + rat + ", one more", hens.settle(rat + 1), rat);
        }
    }

    private static void settleOfOneNest() {
        NobodyLookedYesterday hens = lookedAt("n0000;e00;e01;e08;", 0);
        CHECK.tell(hens, "e07;");
        CHECK.due("17: one and a new one", hens.settle(1), 2);
        CHECK.due("17: two new ones", hens.settle(2), 2);
    }

    private static void judgeOfNoRow() {
        NobodyLookedYesterday hens = CHECK.farm(FIVE);
        CHECK.due("21: no ROW", hens.judge(), -9);
        CHECK.due("21: no refusal", hens.count(13), 0);
    }

    private static void judgeOfAFullRow() {
        NobodyLookedYesterday hens = CHECK.farm(FIVE + "h30;");
        CHECK.due("21: all eight are so", judge(hens, 0, 3, 0, 3, 0, 3, 0, 3), -9);
        CHECK.due("21: but the eighth", judge(hens, 0, 3, 0, 3, 0, 3, 0, 1), 7);
        CHECK.due("21: none is so", judge(hens, 3, 0, 3, 0, 3, 0, 3, 0), 0);
    }

    /** "the first (from 0) that is not so". */
    private static void judgeEachPlace() {
        NobodyLookedYesterday hens = CHECK.farm("n0000;n0000;");
        for (int place = 0; place < 8; place++) {
            int[] row = new int[8];
            row[place] = 1;
            CHECK.due("21: place " + place, judge(hens, row), place);
            row[7] = 1;
            CHECK.due("21: the first of two, " + place, judge(hens, row), place);
        }
    }

    private static void judgeOfNestsThatAreNotThere() {
        NobodyLookedYesterday hens = CHECK.farm("n0000;");
        CHECK.due("21: nest 5", judge(hens, 5), 0);
        CHECK.due("21: nest 1 at the end", judge(hens, 0, 0, 0, 0, 0, 0, 0, 1), 7);
    }

    /** "(the ROW has none then)". */
    private static void judgeEmptiesTheRow() {
        NobodyLookedYesterday hens = CHECK.farm("n0000;");
        judge(hens, 0, 0);
        CHECK.due("21: all so, none then", hens.count(8), 0);
        judge(hens, 0, 1, 0);
        CHECK.due("21: not so, none then", hens.count(8), 0);
        CHECK.due("21: the first again", hens.row(0), 1);
    }

    /** "from tonight on, night by night, if nobody looks any more". */
    private static void judgeFromTonightOn() {
        NobodyLookedYesterday hens = lookedAt("n0009;n5500;h10;", 0);
        CHECK.due("21: tonight at 1, then at 0", judge(hens, 1, 0, 0, 0), -9);
        CHECK.due("21: not at 1 again", judge(hens, 1, 1), 1);
        hens.night();
        CHECK.due("21: as if today were the first", judge(hens, 0, 0), -9);
    }

    /** By what she is, whatever KINDS were thought of ahead of that. */
    private static void judgeGoesByHerKind() {
        NobodyLookedYesterday hens = CHECK.farm("n0001;n0002;h01;");
        hens.soon();
        CHECK.due("21: NEAR behind SOON", judge(hens, 0, 0), -9);
        Check.rowOf(hens, 0, 0);
        hens.ways();
        CHECK.due("21: NEAR behind WAYS", hens.judge(), -9);
        hens.set(0, 1);
        hens.soon();
        CHECK.due("21: LIKES behind SOON", judge(hens, 1, 1), -9);
        CHECK.due("17: nothing but her own", hens.settle(2), 2);
        CHECK.due("8: LIKES still", hens.tonight(0), 1);
    }

    private static NobodyLookedYesterday yard() {
        NobodyLookedYesterday hens = CHECK.farm("n0010;n1321;n4412;n7723;n9904;n2815;t9;h43;r6;e00;e11;e22;");
        hens.look(0);
        hens.night();
        hens.image();
        hens.look(5);
        hens.feed('r');
        return hens;
    }

    /** All of this is thought of, not done. */
    private static void nothingIsDone() {
        NobodyLookedYesterday hens = yard();
        hens.row(1);
        hens.ways();
        hens.soon();
        hens.settle(30);
        hens.settle(0);
        hens.judge();
        CHECK.dueAll("15 to 17, 21: nothing is done", Portrait.of(hens), Portrait.of(yard()));
    }
}
