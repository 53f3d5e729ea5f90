/** The edges that "Terms" tells: NESTS, the HEN, SETTINGS, where she MAY lay, WEIGHT, a NIGHT, a LOOK. */
final class TermsEdgeTest {
    private static final Check CHECK = new Check("TermsEdgeTest");

    public static void main(String[] args) {
        nests();
        nestsHaveNothingAtFirst();
        henAtFirst();
        settings();
        mayGoesByThatDayAlone();
        mayAllIfNoneIsLeft();
        mayJustOne();
        weightOneIfAllAreNothing();
        weightNothingBesideOthers();
        nearAtTheFarthest();
        nearFromNestNothing();
        awayFromNone();
        awayOfLast();
        slyOfNineEggsAndMore();
        slyOfFigureNothing();
        slyOfLastAlone();
        toldOfItsNest();
        theLeastNumberOfSeveral();
        lotOfDayNothing();
        lotTurnsRound();
        lotOfOne();
        lotGoesByWhereSheMay();
        nightAgesByOne();
        nightRatAtItsLeast();
        nightRatAtItsGreatest();
        nightLaysByWhatWasAhead();
        nightEmptiesLooked();
        lookTakesAllOfOneNest();
        lookInJustTheTime();
        CHECK.finish();
    }

    private static void weights(String what, NobodyLookedYesterday hens, long... due) {
        long[] got = new long[hens.count(0)];
        for (int nest = 0; nest < got.length; nest++) {
            got[nest] = hens.nest(nest, 6);
        }
        CHECK.dueAll(what, got, due);
    }

    private static void lookAll(NobodyLookedYesterday hens) {
        for (int nest = 0; nest < hens.count(0); nest++) {
            CHECK.due("a look is allowed", hens.look(nest) < 0 ? 1 : 0, 0);
        }
    }

    private static void eggs(NobodyLookedYesterday hens, int nest, int age, int howMany) {
        for (int i = 0; i < howMany; i++) {
            CHECK.tell(hens, "e" + nest + age + ";");
        }
    }

    /** "NESTS 0 .. 5 as they come, each at a point x, y (0 .. 9 each), with MINUTES (0 .. 9), a LIKING (0 .. 9)". */
    private static void nests() {
        NobodyLookedYesterday hens = CHECK.farm("n0000;n9999;n0909;n9090;n1234;n5678;");
        int[][] due = {{0, 0, 0, 0}, {9, 9, 9, 9}, {0, 9, 0, 9}, {9, 0, 9, 0}, {1, 2, 3, 4}, {5, 6, 7, 8}};
        CHECK.due("six NESTS", hens.count(0), 6);
        for (int nest = 0; nest < 6; nest++) {
            for (int what = 0; what < 4; what++) {
                CHECK.due("NEST " + nest + " " + what, hens.nest(nest, what), due[nest][what]);
            }
        }
    }

    /** "EGGS by their AGES (none at first)", "LOOKED .. (none at first)". */
    private static void nestsHaveNothingAtFirst() {
        NobodyLookedYesterday hens = CHECK.farm("n0000;n9999;n0909;n9090;n1234;n5678;");
        for (int nest = 0; nest < 6; nest++) {
            CHECK.due("no EGGS of " + nest, hens.nest(nest, 4), 0);
            CHECK.due("no AGE of " + nest, hens.nest(nest, 5), -9);
            CHECK.due("no look at " + nest, hens.nest(nest, 7), 0);
        }
        for (int age = 0; age < 10; age++) {
            CHECK.due("no EGG of AGE " + age, hens.been(age), -9);
        }
    }

    /** "a KIND .. (0 at first), a FIGURE (0 at first); LAST (none at first). LOOKED, BEFORE (none at first)". */
    private static void henAtFirst() {
        NobodyLookedYesterday hens = CHECK.farm("n0000;n5555;");
        CHECK.due("LAST", hens.count(3), -9);
        CHECK.due("LOOKED", hens.count(4), 0);
        CHECK.due("BEFORE", hens.count(5), 0);
        CHECK.due("KIND", hens.set(0, 5), 0);
        CHECK.due("FIGURE", hens.set(1, 9), 0);
    }

    /** "0 TIME (minutes a day, 0 .. 40; 10), 1 RAT (1 .. 9 ..; 9). DAY (0 at first)". */
    private static void settings() {
        NobodyLookedYesterday hens = new NobodyLookedYesterday();
        CHECK.due("DAY", hens.count(1), 0);
        CHECK.due("TIME", hens.set(2, 40), 10);
        CHECK.due("TIME 40", hens.set(2, 0), 40);
        CHECK.due("TIME 0", hens.set(2, 0), 0);
        CHECK.due("RAT", hens.set(3, 1), 9);
        CHECK.due("RAT 1", hens.set(3, 9), 1);
        CHECK.due("RAT 9", hens.set(3, 9), 9);
    }

    /** "in nests where nobody looked on that day": the day before is no matter. */
    private static void mayGoesByThatDayAlone() {
        NobodyLookedYesterday hens = CHECK.farm("n0000;n5500;n9900;");
        hens.look(0);
        CHECK.due("MAY, that day", hens.tonight(1), 6);
        hens.night();
        CHECK.due("BEFORE", hens.count(5), 1);
        CHECK.due("MAY, the next day", hens.tonight(1), 7);
        hens.look(2);
        CHECK.due("MAY, looked elsewhere", hens.tonight(1), 3);
    }

    /** "all of them, if there is none such". */
    private static void mayAllIfNoneIsLeft() {
        NobodyLookedYesterday hens = CHECK.farm("n0000;n1100;n2200;n3300;n4400;n5500;");
        lookAll(hens);
        CHECK.due("all are LOOKED", hens.count(4), 63);
        CHECK.due("MAY all of six", hens.tonight(1), 63);
        weights("WEIGHT of all of six", hens, 20, 18, 16, 14, 12, 10);
        NobodyLookedYesterday one = CHECK.farm("n0000;");
        CHECK.due("MAY the one", one.tonight(1), 1);
        one.look(0);
        CHECK.due("MAY the one, looked at", one.tonight(1), 1);
        CHECK.due("and lays there", one.night(), 0);
    }

    /** All but one looked at: just that one, not all. */
    private static void mayJustOne() {
        NobodyLookedYesterday hens = CHECK.farm("n0000;n1100;n2200;n3300;n4400;n5500;");
        for (int nest = 0; nest < 5; nest++) {
            hens.look(nest);
        }
        CHECK.due("MAY just 5", hens.tonight(1), 32);
        weights("WEIGHT of just 5", hens, 0, 0, 0, 0, 0, 10);
        CHECK.due("lays at 5", hens.night(), 5);
    }

    /** "if all of these are 0, each is 1": of those where she MAY lay, whatever the others would be. */
    private static void weightOneIfAllAreNothing() {
        NobodyLookedYesterday hens = CHECK.farm("n0000;n5500;n9909;h10;");
        weights("a LIKING", hens, 0, 0, 9);
        hens.look(2);
        weights("none of these", hens, 1, 1, 0);
        CHECK.due("the least number", hens.tonight(0), 0);
        weights("LIKINGS of 0 in all nests", CHECK.farm("n0000;n5500;n9900;h10;"), 1, 1, 1);
    }

    /** One of these is not 0: the others stay 0. */
    private static void weightNothingBesideOthers() {
        NobodyLookedYesterday hens = CHECK.farm("n0000;n5500;n9901;h10;");
        weights("a LIKING of 1", hens, 0, 0, 1);
        CHECK.due("there", hens.tonight(0), 2);
        hens.set(0, 5);
        hens.set(1, 1);
        weights("TOLD of a LIKING of 0", hens, 0, 10, 1);
    }

    /** "20 less the way (x and y differences without sign together)": 18 at most. */
    private static void nearAtTheFarthest() {
        weights("to the other corner", CHECK.farm("n0000;n9900;n9000;n0900;"), 20, 2, 11, 11);
        weights("and back", CHECK.farm("n9900;n0000;n9000;n0900;"), 20, 2, 11, 11);
        weights("across", CHECK.farm("n9000;n0900;"), 20, 2);
    }

    /** "from LAST, if there is none, from nest 0". */
    private static void nearFromNestNothing() {
        NobodyLookedYesterday hens = CHECK.farm("n5500;n9900;n7700;");
        weights("no LAST", hens, 20, 12, 16);
        hens.look(0);
        weights("no LAST, one looked at nest 0", hens, 0, 12, 16);
        hens.night();
        weights("LAST is 2", hens, 16, 16, 20);
    }

    /** "AWAY: as a NEAR, but 0 of LAST": without LAST no nest has 0. */
    private static void awayFromNone() {
        weights("no LAST", CHECK.farm("n5500;n9900;n7700;h30;"), 20, 12, 16);
    }

    private static void awayOfLast() {
        NobodyLookedYesterday hens = CHECK.farm("n5500;n9900;n7700;h30;");
        CHECK.due("at 0", hens.night(), 0);
        weights("LAST is 0", hens, 0, 12, 16);
        NobodyLookedYesterday twin = CHECK.farm("n5500;n5500;h30;");
        twin.night();
        weights("another nest at LAST's point", twin, 0, 20);
        NobodyLookedYesterday one = CHECK.farm("n5500;h30;");
        one.night();
        weights("LAST alone", one, 1);
        CHECK.due("there", one.night(), 0);
    }

    /** "how few EGGS are there (9 less these, 0 at least)". */
    private static void slyOfNineEggsAndMore() {
        NobodyLookedYesterday hens = CHECK.farm("n0000;n0000;h43;");
        weights("no EGGS", hens, 47, 47);
        eggs(hens, 0, 0, 1);
        weights("one EGG", hens, 44, 47);
        eggs(hens, 0, 9, 7);
        weights("eight EGGS", hens, 23, 47);
        eggs(hens, 0, 5, 1);
        weights("nine EGGS", hens, 20, 47);
        eggs(hens, 0, 5, 1);
        weights("ten EGGS", hens, 20, 47);
        eggs(hens, 0, 5, 7);
        weights("seventeen EGGS", hens, 20, 47);
    }

    private static void slyOfFigureNothing() {
        NobodyLookedYesterday hens = CHECK.farm("n0000;n3300;h40;e10;");
        weights("FIGURE 0: as an AWAY", hens, 20, 14);
        hens.night();
        weights("of LAST nothing", hens, 0, 14);
        hens.set(1, 9);
        weights("FIGURE 9", hens, 72, 86);
    }

    /** LAST alone has an AWAY's 0 and FIGURE times how few more; if this is 0, too, it is 1. */
    private static void slyOfLastAlone() {
        NobodyLookedYesterday hens = CHECK.farm("n0000;h42;");
        hens.night();
        weights("eight lack", hens, 16);
        eggs(hens, 0, 0, 7);
        weights("one lacks", hens, 2);
        eggs(hens, 0, 0, 1);
        weights("none lacks", hens, 1);
        NobodyLookedYesterday two = CHECK.farm("n0000;n0000;h42;");
        two.night();
        eggs(two, 0, 0, 8);
        weights("none lacks, another nest", two, 0, 38);
    }

    /** "TOLD: a LIKES', and 10 more of nest FIGURE". */
    private static void toldOfItsNest() {
        NobodyLookedYesterday hens = CHECK.farm("n0009;n0000;n0008;n0000;n0000;n0001;h50;");
        weights("FIGURE 0", hens, 19, 0, 8, 0, 0, 1);
        hens.set(1, 5);
        weights("FIGURE 5", hens, 9, 0, 8, 0, 0, 11);
        hens.set(1, 6);
        weights("FIGURE 6, no nest", hens, 9, 0, 8, 0, 0, 1);
        hens.set(1, 9);
        weights("FIGURE 9, no nest", hens, 9, 0, 8, 0, 0, 1);
        hens.look(0);
        hens.look(2);
        hens.look(5);
        weights("FIGURE 9, no LIKING", hens, 0, 1, 0, 1, 1, 0);
    }

    /** "where WEIGHT is greatest, of several the least number". */
    private static void theLeastNumberOfSeveral() {
        NobodyLookedYesterday hens = CHECK.farm("n0003;n0004;n0004;n0002;n0004;n0004;h10;");
        int[] due = {1, 2, 4, 5, 0, 3};
        for (int nest : due) {
            CHECK.due("the least of the most liked", hens.tonight(0), nest);
            hens.look(nest);
        }
        CHECK.due("looked at all", hens.tonight(0), 1);
        NobodyLookedYesterday last = CHECK.farm("n0000;n0001;n0000;n0000;n0000;n0002;h10;");
        CHECK.due("the last, one more", last.tonight(0), 5);
    }

    /** "DAY times (FIGURE and 1)": nothing on DAY 0. */
    private static void lotOfDayNothing() {
        NobodyLookedYesterday hens = CHECK.farm("n0000;n0000;n0000;n0000;n0000;n0000;h20;");
        for (int figure = 0; figure < 10; figure++) {
            hens.set(1, figure);
            CHECK.due("DAY 0, FIGURE " + figure, hens.tonight(0), 0);
        }
        hens.night();
        int[] due = {1, 2, 3, 4, 5, 0, 1, 2, 3, 4};
        for (int figure = 0; figure < 10; figure++) {
            hens.set(1, figure);
            CHECK.due("DAY 1, FIGURE " + figure, hens.tonight(0), due[figure]);
        }
    }

    /** "modulo how many there are". */
    private static void lotTurnsRound() {
        NobodyLookedYesterday hens = CHECK.farm("n0000;n0000;n0000;h20;");
        int[] due = {0, 1, 2, 0, 1, 2, 0};
        for (int day = 0; day < due.length; day++) {
            CHECK.due("FIGURE 0, DAY " + day, hens.night(), due[day]);
        }
        hens.set(1, 9);
        int[] tens = {1, 2, 0, 1};
        for (int i = 0; i < tens.length; i++) {
            CHECK.due("FIGURE 9, DAY " + (7 + i), hens.night(), tens[i]);
        }
    }

    private static void lotOfOne() {
        NobodyLookedYesterday hens = CHECK.farm("n0000;h29;");
        for (int day = 0; day < 4; day++) {
            CHECK.due("one nest, DAY " + day, hens.night(), 0);
        }
        NobodyLookedYesterday left = CHECK.farm("n0000;n0000;n0000;h20;");
        left.look(0);
        left.look(1);
        CHECK.due("one is left, DAY 0", left.night(), 2);
        left.look(0);
        left.look(2);
        CHECK.due("one is left, DAY 1", left.night(), 1);
    }

    /** "of those where she MAY (by numbers, from 0)". */
    private static void lotGoesByWhereSheMay() {
        NobodyLookedYesterday hens = CHECK.farm("n0000;n0000;n0000;n0000;n0000;n0000;h20;");
        hens.night();
        hens.look(0);
        hens.look(3);
        CHECK.due("DAY 1, of 1, 2, 4, 5", hens.night(), 2);
        hens.look(1);
        CHECK.due("DAY 2, of 0, 2, 3, 4, 5", hens.night(), 3);
        hens.look(5);
        hens.look(4);
        CHECK.due("DAY 3, of 0, 1, 2, 3", hens.night(), 3);
        hens.look(5);
        hens.look(4);
        CHECK.due("DAY 4, of 0, 1, 2, 3", hens.night(), 0);
        lookAll(hens);
        CHECK.due("DAY 5, of all, as all are LOOKED", hens.night(), 5);
    }

    /** "all EGGS are a day older, those of AGE RAT or more are gone; she lays an EGG of AGE 0". */
    private static void nightAgesByOne() {
        NobodyLookedYesterday hens = CHECK.farm("n0000;n0000;r5;e12;e13;e14;e15;e19;");
        CHECK.due("by day the RAT takes none", hens.nest(1, 4), 5);
        CHECK.due("at 0", hens.night(), 0);
        CHECK.due("AGE 2 and 3 are left", hens.nest(1, 4), 2);
        CHECK.due("as AGE 3", hens.been(3), 1);
        CHECK.due("as AGE 4", hens.been(4), 1);
        CHECK.due("AGE 4 is gone as AGE 5", hens.been(5), -9);
        CHECK.due("the new one", hens.been(0), 0);
        CHECK.due("just one", hens.nest(0, 4), 1);
        hens.night();
        CHECK.due("one is AGE 4", hens.been(4), 1);
        CHECK.due("alone", hens.nest(1, 4), 1);
        hens.night();
        CHECK.due("none there", hens.nest(1, 4), 0);
        CHECK.due("the others", hens.count(2), 3);
    }

    private static void nightRatAtItsLeast() {
        NobodyLookedYesterday hens = CHECK.farm("n0000;n0000;r1;e00;e00;e10;e19;");
        hens.night();
        CHECK.due("just the new EGG", hens.count(2), 1);
        CHECK.due("of AGE 0", hens.nest(0, 5), 0);
        hens.night();
        CHECK.due("just the newer EGG", hens.count(2), 1);
    }

    private static void nightRatAtItsGreatest() {
        NobodyLookedYesterday hens = CHECK.farm("n0000;n0000;r9;e17;e18;e19;");
        CHECK.due("AGE 9 by day", hens.been(9), 1);
        hens.night();
        CHECK.due("AGE 7 is 8", hens.been(8), 1);
        CHECK.due("AGE 8 and 9 are gone", hens.nest(1, 4), 1);
        hens.night();
        CHECK.due("all are gone", hens.nest(1, 4), 0);
        NobodyLookedYesterday long1 = CHECK.farm("n0000;r9;");
        for (int night = 1; night < 12; night++) {
            long1.night();
            CHECK.due("EGGS behind night " + night, long1.count(2), Math.min(night, 9));
            CHECK.due("the oldest behind night " + night, long1.nest(0, 5), Math.min(night - 1, 8));
        }
    }

    /** "where she would by how all was ahead of that": not by what the RAT leaves, nor by the next DAY. */
    private static void nightLaysByWhatWasAhead() {
        NobodyLookedYesterday hens = CHECK.farm("n0000;n0800;h41;r1;e00;e00;e00;e00;e00;e00;e00;e00;e00;");
        weights("nine EGGS ahead", hens, 20, 21);
        CHECK.due("at 1", hens.night(), 1);
        NobodyLookedYesterday lot = CHECK.farm("n0000;n0000;h20;");
        CHECK.due("by DAY 0", lot.night(), 0);
        CHECK.due("by DAY 1", lot.night(), 1);
        NobodyLookedYesterday away = CHECK.farm("n0000;n0000;h30;");
        CHECK.due("no LAST", away.night(), 0);
        CHECK.due("by LAST 0", away.night(), 1);
    }

    /** "BEFORE becomes LOOKED, LOOKED none; DAY is one more". */
    private static void nightEmptiesLooked() {
        NobodyLookedYesterday hens = CHECK.farm("n0030;n0040;n0020;");
        hens.look(0);
        hens.look(1);
        CHECK.due("TIME left", hens.count(6), 3);
        hens.night();
        CHECK.due("LOOKED none", hens.count(4), 0);
        CHECK.due("BEFORE 0 and 1", hens.count(5), 3);
        CHECK.due("TIME is whole", hens.count(6), 10);
        CHECK.due("DAY 1", hens.count(1), 1);
        hens.look(2);
        CHECK.due("BEFORE stays by day", hens.count(5), 3);
        hens.night();
        CHECK.due("BEFORE just 2", hens.count(5), 4);
        hens.night();
        CHECK.due("BEFORE none", hens.count(5), 0);
        CHECK.due("DAY 3", hens.count(1), 3);
    }

    /** "all EGGS there are taken: it is in LOOKED". */
    private static void lookTakesAllOfOneNest() {
        NobodyLookedYesterday hens = CHECK.farm("n0000;n0000;n0000;");
        for (int age = 0; age < 10; age++) {
            CHECK.tell(hens, "e0" + age + ";e1" + age + ";e1" + age + ";e2" + age + ";");
        }
        CHECK.due("all AGES of 1", hens.look(1), 20);
        CHECK.due("none is left", hens.nest(1, 4), 0);
        CHECK.due("the nest ahead keeps its own", hens.nest(0, 4), 10);
        CHECK.due("the nest behind, too", hens.nest(2, 4), 10);
        CHECK.due("LOOKED just 1", hens.count(4), 2);
    }

    /** "TIME left today (TIME less MINUTES of all looked at today) must do": all of it does. */
    private static void lookInJustTheTime() {
        NobodyLookedYesterday hens = CHECK.farm("n0060;n0050;n0040;n0000;t10;e10;");
        hens.look(0);
        CHECK.due("four are left", hens.count(6), 4);
        CHECK.due("five do not go in", hens.look(1), -6);
        CHECK.due("four do", hens.look(2), 0);
        CHECK.due("none is left", hens.count(6), 0);
        CHECK.due("none goes in", hens.look(3), 0);
        hens.set(2, 15);
        CHECK.due("TIME made more", hens.count(6), 5);
        CHECK.due("five do now", hens.look(1), 1);
        hens.set(2, 9);
        CHECK.due("TIME made less", hens.count(6), -6);
    }
}
