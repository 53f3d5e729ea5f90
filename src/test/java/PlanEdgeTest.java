/** The edges of promises 10 to 13: PLANS, EACH, SHUT, LEAD. RefusalTest has what they refuse. */
final class PlanEdgeTest {
    private static final Check CHECK = new Check("PlanEdgeTest");

    public static void main(String[] args) {
        planInJustTheTime();
        planWithoutTime();
        planWithoutMinutes();
        planOfSixDearNests();
        planWithoutEggs();
        planOfOneToThreeDays();
        planAheadOfTheRat();
        planEachDayHasItsTime();
        planTheLeastOfSeveral();
        planOfAllNests();
        planAsIfNobodyHadLooked();
        planOfTheNightAsIfNobodyHadLooked();
        planOfASlyHen();
        planLaysWhereNobodyLooks();
        planOfTheFirstDayAlone();
        eachOfNoNest();
        eachOfAllNests();
        eachOfOneDay();
        eachOfThirtyDays();
        eachWhateverItTakes();
        eachAsIfNobodyHadLooked();
        eachOfLessThanAllNests();
        eachGoesByTheRat();
        shutOfOneNest();
        shutInJustTheTime();
        shutWithLessTimeThanAhead();
        shutOfSixNests();
        shutTheLeast();
        shutWhateverHenSheIs();
        leadToLast();
        leadWithoutLast();
        leadInJustTheTime();
        leadWithLessTimeThanAhead();
        leadOfSixDays();
        leadNever();
        leadAsIfNobodyHadLooked();
        leadOfOneNest();
        leadOfASlyHen();
        nothingIsDone();
        CHECK.finish();
    }

    private static void plan(String what, NobodyLookedYesterday hens, int n, int found, int set) {
        CHECK.due("10: " + what + ": FOUND", hens.plan(n, 0), found);
        CHECK.due("10: " + what + ": the set", hens.plan(n, 1), set);
    }

    private static NobodyLookedYesterday inTime(NobodyLookedYesterday hens, int time) {
        hens.set(2, time);
        return hens;
    }

    /** "(MINUTES together no more than TIME)". */
    private static void planInJustTheTime() {
        NobodyLookedYesterday hens = CHECK.farm("n0050;n0050;e00;e10;e10;");
        plan("just for both", inTime(hens, 10), 1, 3, 3);
        plan("a minute lacks for both", inTime(hens, 9), 1, 2, 2);
        plan("just for one", inTime(hens, 5), 1, 2, 2);
        plan("a minute lacks for one", inTime(hens, 4), 1, 0, 0);
    }

    private static void planWithoutTime() {
        NobodyLookedYesterday hens = CHECK.farm("n0010;n0010;t0;e00;e10;");
        for (int n = 1; n <= 3; n++) {
            plan("no TIME, days " + n, hens, n, 0, 0);
        }
        for (int n = 1; n <= 3; n++) {
            CHECK.due("10: a set was thought of", inTime(hens, 40).plan(1, 1), 3);
            plan("none is left of it, days " + n, inTime(hens, 0), n, 0, 0);
        }
    }

    private static void planWithoutMinutes() {
        NobodyLookedYesterday hens = CHECK.farm("n0000;n0010;t0;e00;e10;");
        plan("a nest that takes none", hens, 1, 1, 1);
        plan("all take none", CHECK.farm("n0000;n0000;n0000;n0000;n0000;n0000;t0;e00;e50;"), 1, 2, 33);
    }

    private static void planOfSixDearNests() {
        NobodyLookedYesterday hens = CHECK.farm("n0090;n0090;n0090;n0090;n0090;n0090;t40;e00;e10;e20;e30;e40;e50;");
        plan("four of six", hens, 1, 4, 15);
        plan("just four", inTime(hens, 36), 1, 4, 15);
        plan("three", inTime(hens, 35), 1, 3, 7);
        plan("none", inTime(hens, 8), 1, 0, 0);
    }

    private static void planWithoutEggs() {
        plan("nothing lies about", CHECK.farm("n0000;n0000;n0000;n0000;n0000;n0000;"), 1, 0, 0);
        plan("just of the nights", CHECK.farm("n0000;n0000;n0000;n0000;n0000;n0000;"), 3, 2, 0);
    }

    /** "in n days (1 .. 3), today the first of them": the last NIGHT's EGG is not found. */
    private static void planOfOneToThreeDays() {
        NobodyLookedYesterday hens = CHECK.farm("n0000;e00;");
        plan("one day", hens, 1, 1, 1);
        plan("two days", hens, 2, 2, 0);
        plan("three days", hens, 3, 3, 0);
    }

    /** The RAT leaves just the newest: one looks each day. */
    private static void planAheadOfTheRat() {
        NobodyLookedYesterday hens = CHECK.farm("n0000;r1;e00;");
        plan("RAT, one day", hens, 1, 1, 1);
        plan("RAT, two days", hens, 2, 2, 1);
        plan("RAT, three days", hens, 3, 3, 1);
        NobodyLookedYesterday old = CHECK.farm("n0010;n0010;t1;r3;e01;e12;e12;");
        // AGE 2 is gone by tomorrow, AGE 1 is not: 1 first; she lays at 0 then.
        plan("RAT 3", old, 2, 4, 2);
    }

    private static void planEachDayHasItsTime() {
        plan("nine minutes each day", CHECK.farm("n0090;t9;r1;e00;"), 3, 3, 1);
    }

    /** "of several the least as bits". */
    private static void planTheLeastOfSeveral() {
        NobodyLookedYesterday hens = CHECK.farm("n0010;n0010;n0010;n0010;n0010;n0010;t1;e10;e20;e50;");
        plan("one of three", hens, 1, 1, 2);
        plan("two of three", inTime(hens, 2), 1, 2, 6);
        plan("all three, not more", inTime(hens, 6), 1, 3, 38);
        hens.look(1);
        plan("one of two", inTime(hens, 1), 1, 1, 4);
    }

    private static void planOfAllNests() {
        plan("all six", CHECK.farm("n0000;n0000;n0000;n0000;n0000;n0000;e00;e10;e20;e30;e40;e50;"), 1, 6, 63);
    }

    /** "(as if nobody had looked today so far)": the whole TIME is there, and nests looked at are looked at again. */
    private static void planAsIfNobodyHadLooked() {
        NobodyLookedYesterday hens = CHECK.farm("n0090;t9;e00;");
        hens.look(0);
        plan("what was taken is gone", hens, 1, 0, 0);
        CHECK.tell(hens, "e00;");
        plan("but not the TIME", hens, 1, 1, 1);
        CHECK.due("10: it is gone today", hens.count(6), 0);
    }

    private static void planOfTheNightAsIfNobodyHadLooked() {
        NobodyLookedYesterday hens = CHECK.farm("n0000;n9990;t0;");
        hens.look(0);
        CHECK.due("10: tonight at 1", hens.tonight(0), 1);
        plan("as if not, at 0", hens, 2, 1, 0);
    }

    /** Just LEAD takes a SLY hen as an AWAY one. */
    private static void planOfASlyHen() {
        NobodyLookedYesterday hens = CHECK.farm("n0090;n0900;t0;h49;e00;e00;");
        plan("SLY, at 1", hens, 2, 1, 0);
        hens.set(0, 3);
        plan("AWAY, at 0", hens, 2, 0, 0);
    }

    /** "then there is the NIGHT": one who looks at 0 today sends her to 1, where TIME never does. */
    private static void planLaysWhereNobodyLooks() {
        NobodyLookedYesterday hens = CHECK.farm("n0000;n0090;t0;e08;");
        plan("the old EGG or the new one", hens, 2, 1, 0);
        // Both EGGS on the third day, or one on the first and one on the third: the least set.
        plan("two of three", hens, 3, 2, 0);
        hens.set(2, 9);
        plan("both", hens, 2, 2, 1);
    }

    /** "the set of the first day by which that is": not of one that is tried later, nor of a later day. */
    private static void planOfTheFirstDayAlone() {
        NobodyLookedYesterday hens = CHECK.farm("n0010;n0910;n0910;n9990;t1;e18;e18;e28;e30;");
        plan("two old EGGS at 1, the new one at 0", hens, 2, 3, 2);
        plan("and one more", hens, 3, 4, 2);
    }

    private static void eachOfNoNest() {
        NobodyLookedYesterday hens = CHECK.farm("n0000;n0000;n0000;n0000;n0000;n0000;e00;e50;");
        CHECK.due("11: no bits, one day", hens.each(0, 1), 0);
        CHECK.due("11: no bits, thirty days", hens.each(0, 30), 0);
    }

    /** Bits of all nests that are there. */
    private static void eachOfAllNests() {
        String nests = "";
        for (int howMany = 1; howMany <= 6; howMany++) {
            nests += "n0000;";
            NobodyLookedYesterday hens = CHECK.farm(nests + "e00;e" + (howMany - 1) + "9;");
            int all = (1 << howMany) - 1;
            CHECK.due("11: all of " + howMany, hens.each(all, 1), 2);
            CHECK.due("11: all of " + howMany + ", thirty days", hens.each(all, 30), 31);
            CHECK.due("11: the last of " + howMany, hens.each(1 << howMany - 1, 1), howMany == 1 ? 2 : 1);
            CHECK.due("11: one more than " + howMany, hens.each(all + 1, 1), -1);
        }
    }

    /** n 1: what lies about by day, not what she lays in the NIGHT. */
    private static void eachOfOneDay() {
        NobodyLookedYesterday hens = CHECK.farm("n0000;");
        CHECK.due("11: nothing yet", hens.each(1, 1), 0);
        CHECK.due("11: one behind a NIGHT", hens.each(1, 2), 1);
    }

    private static void eachOfThirtyDays() {
        NobodyLookedYesterday hens = CHECK.farm("n0000;");
        CHECK.due("11: twenty-nine NIGHTS", hens.each(1, 29), 28);
        CHECK.due("11: thirty days", hens.each(1, 30), 29);
        CHECK.due("11: thirty-one", hens.each(1, 31), -6);
        NobodyLookedYesterday lot = CHECK.farm("n0000;n0000;n0000;n0000;n0000;n0000;h20;");
        // Nests 1 to 5 by DAY modulo 5: nobody looks there. Set 63: all, as all are looked at.
        CHECK.due("11: LOT goes elsewhere", lot.each(1, 30), 0);
        CHECK.due("11: LOT, all", lot.each(63, 30), 29);
    }

    /** "whatever it takes". */
    private static void eachWhateverItTakes() {
        NobodyLookedYesterday hens = CHECK.farm("n0090;n0090;n0090;n0090;n0090;n0090;t0;e00;e10;e20;e30;e40;e50;");
        CHECK.due("11: fifty-four minutes in no TIME", hens.each(63, 1), 6);
        CHECK.due("11: each day", hens.each(63, 3), 8);
    }

    private static void eachAsIfNobodyHadLooked() {
        NobodyLookedYesterday hens = CHECK.farm("n0000;n0009;h10;e10;");
        hens.look(0);
        CHECK.due("11: looked at 1, too, she would lay at 1", hens.each(3, 2), 2);
        CHECK.due("11: as if not at 0: she lays at 0", hens.each(2, 2), 1);
        hens.look(1);
        CHECK.due("11: as if not at 1: she lays at 1", hens.each(1, 2), 0);
    }

    /** She lays where nobody looked: but for all nests, a set finds just what lay there at first. */
    private static void eachOfLessThanAllNests() {
        for (int kind = 0; kind < 6; kind++) {
            NobodyLookedYesterday hens = CHECK.farm("n0001;n5502;n9900;h" + kind + "3;e00;e01;e10;e25;e26;e27;");
            int[] due = {0, 2, 1, 3, 3, 5, 4};
            for (int set = 0; set < 7; set++) {
                CHECK.due("11: KIND " + kind + ", set " + set, hens.each(set, 30), due[set]);
            }
            CHECK.due("11: KIND " + kind + ", all", hens.each(7, 30), 35);
        }
    }

    private static void eachGoesByTheRat() {
        NobodyLookedYesterday hens = CHECK.farm("n0009;n0000;h10;r1;e09;e00;");
        CHECK.due("11: the first day ahead of the RAT", hens.each(1, 1), 2);
        CHECK.due("11: nothing is left of nest 1", hens.each(2, 30), 0);
    }

    /** One nest: the set of none leaves just that one. */
    private static void shutOfOneNest() {
        CHECK.due("12: one nest", CHECK.farm("n0000;").shut(), 0);
        CHECK.due("12: one dear nest without TIME", CHECK.farm("n0090;t0;").shut(), 0);
    }

    private static void shutInJustTheTime() {
        NobodyLookedYesterday hens = CHECK.farm("n0030;n0050;");
        CHECK.due("12: a minute lacks", inTime(hens, 2).shut(), -9);
        CHECK.due("12: just 0", inTime(hens, 3).shut(), 1);
        CHECK.due("12: both, the least", inTime(hens, 8).shut(), 1);
        NobodyLookedYesterday other = CHECK.farm("n0050;n0030;");
        CHECK.due("12: a minute lacks, other", inTime(other, 2).shut(), -9);
        CHECK.due("12: just 1", inTime(other, 4).shut(), 2);
        CHECK.due("12: now 0", inTime(other, 5).shut(), 1);
        CHECK.due("12: -9 is no refusal", other.count(16), 0);
    }

    /** Sets that TIME allowed ahead are no matter. */
    private static void shutWithLessTimeThanAhead() {
        String nests = "n0030;";
        for (int howMany = 2; howMany <= 6; howMany++) {
            nests += "n0030;";
            int due = (1 << howMany - 1) - 1;
            NobodyLookedYesterday hens = CHECK.farm(nests);
            for (int time = 40; time >= 0; time--) {
                CHECK.due("12: " + howMany + " nests, TIME " + time, inTime(hens, time).shut(),
                    time >= 3 * (howMany - 1) ? due : -9);
            }
        }
        NobodyLookedYesterday dear = CHECK.farm("n0030;n0050;");
        CHECK.due("12: both, ahead", inTime(dear, 8).shut(), 1);
        CHECK.due("12: none, behind", inTime(dear, 2).shut(), -9);
    }

    private static void shutOfSixNests() {
        NobodyLookedYesterday hens = CHECK.farm("n0080;n0080;n0080;n0080;n0080;n0080;");
        CHECK.due("12: forty minutes", inTime(hens, 40).shut(), 31);
        CHECK.due("12: a minute lacks", inTime(hens, 39).shut(), -9);
        CHECK.due("12: forty-five do not go", inTime(CHECK.farm("n0090;n0090;n0090;n0090;n0090;n0090;"), 40).shut(), -9);
        CHECK.due("12: without minutes", inTime(CHECK.farm("n0000;n0000;n0000;n0000;n0000;n0000;"), 0).shut(), 31);
    }

    /** "the least set". */
    private static void shutTheLeast() {
        NobodyLookedYesterday hens = CHECK.farm("n0090;n0010;n0010;n0020;");
        CHECK.due("12: all but 0", inTime(hens, 4).shut(), 14);
        CHECK.due("12: all but 3, at last", inTime(hens, 11).shut(), 7);
        CHECK.due("12: all but 0 still", inTime(hens, 10).shut(), 14);
    }

    /** "(whatever hen she is)"; nor do today's looks tell. */
    private static void shutWhateverHenSheIs() {
        NobodyLookedYesterday hens = CHECK.farm("n0020;n0030;n0000;t3;");
        for (int kind = 0; kind < 6; kind++) {
            for (int figure = 0; figure < 10; figure += 9) {
                hens.set(0, kind);
                hens.set(1, figure);
                CHECK.due("12: KIND " + kind, hens.shut(), 5);
            }
        }
        hens.look(2);
        hens.look(1);
        CHECK.due("12: looked today", hens.shut(), 5);
    }

    /** "0 it is". */
    private static void leadToLast() {
        NobodyLookedYesterday hens = CHECK.farm("n0000;n0000;n0000;n0000;n0000;n0000;h20;");
        for (int nest = 0; nest < 6; nest++) {
            hens.night();
            CHECK.due("13: it is " + nest, hens.lead(nest), 0);
        }
    }

    /** No LAST yet: nest 0 is none, so it takes a NIGHT. */
    private static void leadWithoutLast() {
        NobodyLookedYesterday hens = CHECK.farm("n0000;n9900;t0;");
        CHECK.due("13: nest 0 in a day", hens.lead(0), 1);
        hens.night();
        CHECK.due("13: nest 0 now", hens.lead(0), 0);
    }

    /** "by sets that TIME allows". */
    private static void leadInJustTheTime() {
        NobodyLookedYesterday hens = CHECK.farm("n0030;n1120;n9900;");
        CHECK.due("13: just past 0", inTime(hens, 3).lead(1), 1);
        CHECK.due("13: a minute lacks past 0", inTime(hens, 2).lead(1), -9);
        CHECK.due("13: just past both", inTime(hens, 5).lead(2), 1);
        // 0 alone, or 1 alone: from 1 she goes to 0 again.
        CHECK.due("13: a minute lacks past both", inTime(hens, 4).lead(2), -9);
    }

    /** Sets that TIME allowed ahead are no matter. */
    private static void leadWithLessTimeThanAhead() {
        NobodyLookedYesterday hens = CHECK.farm("n0030;n1120;n9900;");
        for (int time = 40; time >= 0; time--) {
            CHECK.due("13: to 1, TIME " + time, inTime(hens, time).lead(1), time >= 3 ? 1 : -9);
            CHECK.due("13: to 2, TIME " + time, inTime(hens, time).lead(2), time >= 5 ? 1 : -9);
        }
    }

    /** "the fewest days (0 .. 6)". */
    private static void leadOfSixDays() {
        NobodyLookedYesterday hens = CHECK.farm("n0090;n0090;n0090;n0090;n0090;n0090;t0;h20;");
        for (int nest = 0; nest < 6; nest++) {
            CHECK.due("13: nest " + nest, hens.lead(nest), nest + 1);
        }
        NobodyLookedYesterday chain = CHECK.farm("n0050;n5050;n9050;n9350;n9550;n9650;t5;");
        int[] due = {1, 1, 2, 3, 4, 5};
        for (int nest = 0; nest < 6; nest++) {
            CHECK.due("13: NEAR, nest " + nest, chain.lead(nest), due[nest]);
        }
    }

    private static void leadNever() {
        NobodyLookedYesterday hens = CHECK.farm("n0090;n0090;n0090;n0090;t0;h21;");
        int[] due = {1, -9, 2, -9};
        for (int nest = 0; nest < 4; nest++) {
            CHECK.due("13: LOT, each other nest " + nest, hens.lead(nest), due[nest]);
        }
        CHECK.due("13: -9 is no refusal", hens.count(11), 0);
        CHECK.due("13: not liked", CHECK.farm("n0099;n0000;t8;h10;").lead(1), -9);
        CHECK.due("13: nest 0 not liked", CHECK.farm("n0090;n0099;t8;h10;").lead(0), -9);
        CHECK.due("13: led off what she likes", CHECK.farm("n0099;n0000;t9;h10;").lead(1), 1);
    }

    private static void leadAsIfNobodyHadLooked() {
        NobodyLookedYesterday hens = CHECK.farm("n0000;n1190;t0;");
        hens.look(0);
        CHECK.due("13: tonight at 1", hens.tonight(0), 1);
        CHECK.due("13: as if not: at 0", hens.lead(0), 1);
        NobodyLookedYesterday spent = CHECK.farm("n0030;n1190;t3;");
        spent.look(0);
        CHECK.due("13: the whole TIME", spent.lead(1), 1);
    }

    private static void leadOfOneNest() {
        for (int kind = 0; kind < 6; kind++) {
            NobodyLookedYesterday hens = CHECK.farm("n0090;t0;h" + kind + "9;");
            CHECK.due("13: one nest, KIND " + kind, hens.lead(0), 1);
            hens.night();
            CHECK.due("13: and there, KIND " + kind, hens.lead(0), 0);
        }
    }

    /** "a SLY hen as an AWAY one", whatever lies about. */
    private static void leadOfASlyHen() {
        NobodyLookedYesterday hens = CHECK.farm("n0090;n0990;t0;h49;e00;e00;");
        CHECK.due("13: SLY at 1", hens.tonight(0), 1);
        CHECK.due("13: AWAY at 0", hens.lead(0), 1);
        CHECK.due("13: AWAY at 1 then", hens.lead(1), 2);
        CHECK.due("13: she stays SLY", hens.set(0, 4), 4);
        NobodyLookedYesterday full = CHECK.farm("n0090;n1090;t0;h40;e00;e00;e00;e00;e00;e00;e00;e00;e00;");
        for (int figure = 1; figure < 10; figure++) {
            full.set(1, figure);
            CHECK.due("13: SLY at 1, FIGURE " + figure, full.tonight(0), 1);
            CHECK.due("13: AWAY at 0, FIGURE " + figure, full.lead(0), 1);
            CHECK.due("13: AWAY at 1 then, FIGURE " + figure, full.lead(1), 2);
        }
    }

    /** All of this is thought of, not done. */
    private static void nothingIsDone() {
        NobodyLookedYesterday hens = yard();
        for (int n = 1; n <= 3; n++) {
            hens.plan(n, 0);
            hens.plan(n, 1);
        }
        hens.each(63, 30);
        hens.each(0, 1);
        hens.shut();
        for (int nest = 0; nest < 6; nest++) {
            hens.lead(nest);
        }
        CHECK.dueAll("10 to 13: nothing is done", Portrait.of(hens), Portrait.of(yard()));
    }

    private static NobodyLookedYesterday yard() {
        NobodyLookedYesterday hens = CHECK.farm("n0010;n1321;n4412;n7723;n9904;n2815;t9;h43;r6;e00;e11;e22;");
        hens.look(0);
        hens.night();
        hens.image();
        hens.look(1);
        hens.night();
        hens.look(5);
        Check.rowOf(hens, 1, 2);
        hens.feed('r');
        return hens;
    }
}
