/** The edges of promises 1, 4 to 9, 14, 23 and 26: what a call answers there. RefusalTest has what they refuse. */
final class CallEdgeTest {
    private static final String SIX = "n0005;n5529;n9021;n1113;n2914;n9902;";
    private static final Check CHECK = new Check("CallEdgeTest");

    public static void main(String[] args) {
        newObject();
        nestsAnswers();
        greatestAge();
        weightTonight();
        lookedToday();
        setAnswersWhatItWas();
        setTakesEachNumber();
        lookAtEmptyAndFull();
        lookAgain();
        nightOfOneNest();
        nightAnswersWhereSheLays();
        tonightIsThisEvening();
        mayAsBits();
        likelyNothing();
        likelyCertain();
        likelyWhereOneLookedEverywhere();
        likelyInLeastTerms();
        likelyByLot();
        rowIsFull();
        rowOfNestsThatAreNotThere();
        clearOfNoneAndOfAll();
        countOfAnotherWhat();
        countAtTheEdges();
        countOfRefusals();
        CHECK.finish();
    }

    /** "No nests, a NEAR hen." */
    private static void newObject() {
        NobodyLookedYesterday hens = new NobodyLookedYesterday();
        CHECK.dueAll("1: counts", Check.counts(hens), 0, 0, 0, -9, 0, 0, 10, 0, 0, 0, 0, 0, 0, 0, 0, 0);
        CHECK.due("1: no IMAGE", hens.restore(), -3);
        CHECK.due("1: no ROW", hens.clear(), 0);
        CHECK.due("1: no letters", hens.farm(), -1000);
        CHECK.tell(hens, "n0000;n9990;");
        CHECK.due("1: NEAR", hens.nest(1, 6), 2);
        CHECK.due("1: KIND 0", hens.set(0, 0), 0);
    }

    private static void nestsAnswers() {
        NobodyLookedYesterday hens = CHECK.farm(SIX);
        int[][] due = {{0, 0, 0, 5, 0, -9, 20, 0}, {9, 9, 0, 2, 0, -9, 2, 0}};
        for (int what = 0; what < 8; what++) {
            CHECK.due("4: the first nest " + what, hens.nest(0, what), due[0][what]);
            CHECK.due("4: the last nest " + what, hens.nest(5, what), due[1][what]);
        }
    }

    /** "the greatest AGE of these (5; -9)". */
    private static void greatestAge() {
        NobodyLookedYesterday hens = CHECK.farm(SIX);
        for (int age = 0; age < 10; age++) {
            CHECK.due("4: none in nest 4", hens.nest(4, 5), -9);
            CHECK.tell(hens, "e5" + age + ";");
            CHECK.due("4: AGE " + age, hens.nest(5, 5), age);
        }
        CHECK.tell(hens, "e50;");
        CHECK.due("4: a younger one more", hens.nest(5, 5), 9);
        hens.look(5);
        CHECK.due("4: -9 behind a look", hens.nest(5, 5), -9);
        hens.night();
        CHECK.due("4: AGE 0 behind the NIGHT", hens.nest(0, 5), 0);
    }

    /** "WEIGHT tonight (6; 0 she may not)". */
    private static void weightTonight() {
        NobodyLookedYesterday hens = CHECK.farm(SIX);
        CHECK.due("4: WEIGHT", hens.nest(5, 6), 2);
        hens.look(5);
        CHECK.due("4: she may not", hens.nest(5, 6), 0);
        hens.night();
        CHECK.due("4: she may again", hens.nest(5, 6), 2);
        for (int nest = 0; nest < 6; nest++) {
            hens.look(nest);
        }
        CHECK.due("4: LOOKED all, she may", hens.nest(5, 6), 2);
    }

    /** "1 one looked there today (7)". */
    private static void lookedToday() {
        NobodyLookedYesterday hens = CHECK.farm(SIX);
        hens.look(5);
        for (int nest = 0; nest < 6; nest++) {
            CHECK.due("4: looked at " + nest, hens.nest(nest, 7), nest == 5 ? 1 : 0);
        }
        hens.night();
        CHECK.due("4: not today", hens.nest(5, 7), 0);
    }

    private static void setAnswersWhatItWas() {
        NobodyLookedYesterday hens = new NobodyLookedYesterday();
        int[] atFirst = {0, 0, 10, 9};
        for (int what = 0; what < 4; what++) {
            CHECK.due("5: it was " + what, hens.set(what, 3), atFirst[what]);
            CHECK.due("5: the same again " + what, hens.set(what, 3), 3);
        }
        CHECK.due("5: TIME alone is left", hens.count(6), 3);
    }

    /** 0 .. 5; 0 .. 9; 0 .. 40; 1 .. 9. */
    private static void setTakesEachNumber() {
        NobodyLookedYesterday hens = new NobodyLookedYesterday();
        int[] least = {0, 0, 0, 1};
        int[] greatest = {5, 9, 40, 9};
        for (int what = 0; what < 4; what++) {
            hens.set(what, least[what]);
            for (int v = least[what]; v < greatest[what]; v++) {
                CHECK.due("5: " + what + " of " + v, hens.set(what, v + 1), v);
            }
            CHECK.due("5: the greatest of " + what, hens.set(what, least[what]), greatest[what]);
        }
    }

    private static void lookAtEmptyAndFull() {
        NobodyLookedYesterday hens = CHECK.farm(SIX + "e00;e00;e00;e00;e00;e00;e00;e00;e00;");
        CHECK.due("6: nothing there", hens.look(5), 0);
        CHECK.due("6: nothing found", hens.count(9), 0);
        CHECK.due("6: nine", hens.look(0), 9);
        CHECK.due("6: nine found", hens.count(9), 9);
        CHECK.due("6: none lie about", hens.count(2), 0);
    }

    /** "-3 one looked there today": the next day is another. */
    private static void lookAgain() {
        NobodyLookedYesterday hens = CHECK.farm("n0050;e00;");
        CHECK.due("6: one", hens.look(0), 1);
        CHECK.due("6: again", hens.look(0), -3);
        hens.night();
        CHECK.due("6: the next day", hens.look(0), 1);
        CHECK.due("6: again, too", hens.look(0), -3);
    }

    private static void nightOfOneNest() {
        for (int kind = 0; kind < 6; kind++) {
            NobodyLookedYesterday hens = CHECK.farm("n9990;h" + kind + "9;");
            for (int day = 0; day < 3; day++) {
                CHECK.due("7: KIND " + kind + " in the one nest", hens.night(), 0);
                CHECK.due("7: LAST", hens.count(3), 0);
            }
            hens.look(0);
            CHECK.due("7: KIND " + kind + " where one looked", hens.night(), 0);
        }
    }

    private static void nightAnswersWhereSheLays() {
        NobodyLookedYesterday hens = CHECK.farm("n0000;n0000;n0000;n0000;n0000;n0000;h20;");
        for (int day = 0; day < 8; day++) {
            int tonight = hens.tonight(0);
            CHECK.due("7: nest " + day % 6, hens.night(), day % 6);
            CHECK.due("7: as TONIGHT", tonight, day % 6);
            CHECK.due("7: LAST", hens.count(3), day % 6);
            CHECK.due("7: DAY", hens.count(1), day + 1);
        }
    }

    /** "where she would lay, if now were the evening": today's looks tell. */
    private static void tonightIsThisEvening() {
        NobodyLookedYesterday hens = CHECK.farm(SIX);
        int[] due = {0, 3, 2, 1, 4, 5};
        for (int nest : due) {
            CHECK.due("8: TONIGHT", hens.tonight(0), nest);
            hens.look(nest);
        }
        CHECK.due("8: looked at all", hens.tonight(0), 0);
        CHECK.due("8: nothing came", hens.count(1), 0);
    }

    private static void mayAsBits() {
        NobodyLookedYesterday hens = CHECK.farm(SIX);
        int may = 63;
        for (int nest = 5; nest >= 0; nest--) {
            CHECK.due("8: MAY", hens.tonight(1), may);
            hens.look(nest);
            may -= 1 << nest;
        }
        CHECK.due("8: MAY all", hens.tonight(1), 63);
    }

    private static void likely(String what, NobodyLookedYesterday hens, int nest, long above, long below) {
        CHECK.due(what + ": above", hens.likely(nest, 0), above);
        CHECK.due(what + ": below", hens.likely(nest, 1), below);
    }

    /** Nothing in least terms is 0 over 1. */
    private static void likelyNothing() {
        NobodyLookedYesterday hens = CHECK.farm("n0000;n0000;n0000;");
        hens.look(0);
        likely("9: she may not", hens, 0, 0, 1);
        likely("9: WEIGHT 0", CHECK.farm("n0009;n0000;n0009;h10;"), 1, 0, 1);
        NobodyLookedYesterday away = CHECK.farm("n0000;n0000;n0000;h30;");
        away.night();
        likely("9: AWAY of LAST", away, 0, 0, 1);
    }

    private static void likelyCertain() {
        likely("9: one nest", CHECK.farm("n0000;"), 0, 1, 1);
        likely("9: the one liked", CHECK.farm("n0000;n0009;n0000;h10;"), 1, 1, 1);
        NobodyLookedYesterday hens = CHECK.farm("n0000;n9900;n9900;");
        hens.look(0);
        hens.look(1);
        likely("9: the one left", hens, 2, 1, 1);
    }

    /** She MAY lay in all nests then: WEIGHT of each counts again. */
    private static void likelyWhereOneLookedEverywhere() {
        NobodyLookedYesterday hens = CHECK.farm("n0002;n9903;h10;");
        hens.look(0);
        likely("9: just the other", hens, 0, 0, 1);
        likely("9: the other", hens, 1, 1, 1);
        hens.look(1);
        likely("9: 2 of 5", hens, 0, 2, 5);
        likely("9: 3 of 5", hens, 1, 3, 5);
    }

    private static void likelyInLeastTerms() {
        NobodyLookedYesterday hens = CHECK.farm("n0006;n0009;n0000;h10;");
        likely("9: 6 of 15", hens, 0, 2, 5);
        likely("9: 9 of 15", hens, 1, 3, 5);
        likely("9: 7 of 16", CHECK.farm("n0007;n0009;h10;"), 0, 7, 16);
        likely("9: 4 of 8", CHECK.farm("n0004;n0004;h10;"), 1, 1, 2);
        likely("9: 20 of 120", CHECK.farm("n0000;n0000;n0000;n0000;n0000;n0000;"), 5, 1, 6);
        // The greatest WEIGHTS of all: 101 each.
        likely("9: 101 of 606", CHECK.farm("n0000;n0000;n0000;n0000;n0000;n0000;h49;"), 5, 1, 6);
        likely("9: none liked", CHECK.farm("n0000;n0000;n0000;n0000;n0000;h10;"), 4, 1, 5);
        likely("9: 101 of 184", CHECK.farm("n0000;n9900;h49;"), 0, 101, 184);
    }

    /** "if she lay by lot with these WEIGHTS (LOT too)": a LOT's are alike, on each DAY. */
    private static void likelyByLot() {
        NobodyLookedYesterday hens = CHECK.farm(SIX + "h23;");
        for (int day = 0; day < 3; day++) {
            for (int nest = 0; nest < 6; nest++) {
                likely("9: LOT of DAY " + day, hens, nest, 1, 6);
            }
            hens.night();
        }
        hens.look(5);
        likely("9: LOT of five", hens, 0, 1, 5);
        likely("9: LOT, she may not", hens, 5, 0, 1);
    }

    /** "8 at most". */
    private static void rowIsFull() {
        NobodyLookedYesterday hens = new NobodyLookedYesterday();
        for (int i = 0; i < 8; i++) {
            CHECK.due("14: the " + i + "th", hens.row(i % 2 == 0 ? 0 : 5), i + 1);
        }
        CHECK.due("14: one more", hens.row(0), -6);
        CHECK.due("14: eight", hens.count(8), 8);
        hens.clear();
        CHECK.due("14: room again", hens.row(5), 1);
    }

    /** "0 .. 5", whatever nests there are. */
    private static void rowOfNestsThatAreNotThere() {
        NobodyLookedYesterday hens = CHECK.farm("n0000;");
        CHECK.due("14: nest 5", hens.row(5), 1);
        CHECK.due("14: nest 0", hens.row(0), 2);
        CHECK.due("14: nest 6", hens.row(6), -6);
    }

    /** "The ROW has none then: how many it had." */
    private static void clearOfNoneAndOfAll() {
        NobodyLookedYesterday hens = new NobodyLookedYesterday();
        CHECK.due("23: none", hens.clear(), 0);
        for (int i = 1; i < 9; i++) {
            for (int k = 0; k < i; k++) {
                hens.row(k % 6);
            }
            CHECK.due("23: it had " + i, hens.clear(), i);
            CHECK.due("23: none then", hens.count(8), 0);
        }
        CHECK.due("23: none again", hens.clear(), 0);
    }

    /** "-9 for another what". */
    private static void countOfAnotherWhat() {
        NobodyLookedYesterday hens = CHECK.farm(SIX);
        for (int what : new int[] {-1, 10, 17, -9, 16 + 16, Integer.MIN_VALUE, Integer.MAX_VALUE}) {
            CHECK.due("26: " + what, hens.count(what), -9);
        }
        for (int what = 11; what <= 16; what++) {
            CHECK.due("26: nothing is refused " + what, hens.count(what), 0);
        }
    }

    private static void countAtTheEdges() {
        NobodyLookedYesterday hens = CHECK.farm(SIX);
        CHECK.due("26: LAST none", hens.count(3), -9);
        hens.night();
        CHECK.due("26: LAST 0", hens.count(3), 0);
        for (int nest = 0; nest < 6; nest++) {
            hens.look(nest);
        }
        CHECK.due("26: LOOKED all", hens.count(4), 63);
        CHECK.due("26: BEFORE none", hens.count(5), 0);
        hens.night();
        CHECK.due("26: LOOKED none", hens.count(4), 0);
        CHECK.due("26: BEFORE all", hens.count(5), 63);
        CHECK.due("26: NESTS", hens.count(0), 6);
        CHECK.due("26: one was found", hens.count(9), 1);
        CHECK.due("26: one lies about", hens.count(2), 1);
    }

    /** "11 .. 16 REFUSALS -1 .. -6", each by itself; nothing is refused with -5. */
    private static void countOfRefusals() {
        NobodyLookedYesterday hens = CHECK.farm(SIX);
        hens.look(6);
        for (int i = 0; i < 2; i++) {
            hens.tonight(9);
        }
        for (int i = 0; i < 3; i++) {
            hens.restore();
        }
        for (int i = 0; i < 4; i++) {
            hens.feed(-1);
        }
        for (int i = 0; i < 6; i++) {
            hens.settle(31);
        }
        long[] due = {1, 2, 3, 4, 0, 6};
        for (int i = 0; i < 6; i++) {
            CHECK.due("26: REFUSALS " + (11 + i), hens.count(11 + i), due[i]);
        }
    }
}
