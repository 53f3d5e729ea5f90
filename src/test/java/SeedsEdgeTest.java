/** The edges of promise 22: SEEDS and DRAWS. RefusalTest has what it refuses. */
final class SeedsEdgeTest {
    private static final Check CHECK = new Check("SeedsEdgeTest");

    public static void main(String[] args) {
        drawsOfEachSign();
        drawsOfFewerNests();
        drawsWrapOnAndOn();
        oneDay();
        sixtyDays();
        whateverItTakes();
        atTheLowerEdgeOfANest();
        atTheUpperEdgeOfANest();
        aDrawOfNothing();
        theGreatestDraw();
        allWeightsNothing();
        byLotWhateverSheIs();
        whereSheMay();
        allLookedAt();
        theRatTakes();
        nothingIsDone();
        CHECK.finish();
    }

    /** Nest i has i and one EGG: one day tells which nest the first DRAW is. */
    private static NobodyLookedYesterday ladder() {
        NobodyLookedYesterday hens = CHECK.farm("n0000;n0000;n0000;n0000;n0000;n0000;e00;");
        CHECK.tell(hens, "e10;e11;e20;e21;e22;e30;e31;e32;e33;e40;e41;e42;e43;e44;");
        CHECK.tell(hens, "e50;e51;e52;e53;e54;e55;");
        return hens;
    }

    /** "(an int, wrapping)", "z without its sign's bit, over 65536, cut": the first DRAW below 6 of each z. */
    private static void drawsOfEachSign() {
        int[] seeds = {0, 1, -1, 2, 7, 12345, -12345, 1103515245, Integer.MAX_VALUE, Integer.MIN_VALUE};
        int[] due = {0, 2, 5, 2, 4, 0, 2, 0, 5, 0};
        NobodyLookedYesterday hens = ladder();
        for (int i = 0; i < seeds.length; i++) {
            CHECK.due("22: z " + seeds[i], hens.seeds(1, seeds[i]), due[i] + 1);
        }
    }

    /** 15929 is the first of -1, 9862 the third: below 2, 3, 4, 5. */
    private static void drawsOfFewerNests() {
        int[] due = {1, 2, 1, 4};
        String nests = "n0000;";
        for (int howMany = 2; howMany <= 5; howMany++) {
            nests += "n0000;";
            for (int nest = 0; nest < howMany; nest++) {
                NobodyLookedYesterday hens = CHECK.farm(nests + "e" + nest + "0;");
                CHECK.due("22: nest " + nest + " of " + howMany, hens.seeds(1, -1), nest == due[howMany - 2] ? 1 : 0);
            }
        }
    }

    /** Two nests, no LIKING at 1: she lays at 0 unless one looked there; told once more with longs. */
    private static void drawsWrapOnAndOn() {
        NobodyLookedYesterday hens = CHECK.farm("n0001;n0000;h10;");
        for (int z : new int[] {0, 1, -1, 99, Integer.MAX_VALUE, Integer.MIN_VALUE, -77777}) {
            for (int n : new int[] {1, 2, 3, 30, 59, 60}) {
                CHECK.due("22: z " + z + ", days " + n, hens.seeds(n, z), toldOnceMore(n, z));
            }
        }
    }

    private static int toldOnceMore(int n, long z) {
        long mask = (1L << 32) - 1;
        long seed = z & mask;
        int[] eggs = new int[2];
        int[] oldest = {-1, -1};
        int[][] laidOn = new int[2][n];
        int found = 0;
        for (int day = 0; day < n; day++) {
            seed = seed * 1103515245L + 12345L & mask;
            int looked = (int) (seed >> 16 & 0x7fff) % 2;
            for (int earlier = Math.max(0, day - 9); earlier < day; earlier++) {
                found += laidOn[looked][earlier];
                laidOn[looked][earlier] = 0;
            }
            seed = seed * 1103515245L + 12345L & mask;
            laidOn[looked == 0 ? 1 : 0][day] = 1;
        }
        return found;
    }

    /** "n days (1 .. 60)": of one day the NIGHT's EGG is not found. */
    private static void oneDay() {
        NobodyLookedYesterday hens = CHECK.farm("n0000;");
        CHECK.due("22: nothing yet", hens.seeds(1, 5), 0);
        CHECK.due("22: one of a NIGHT", hens.seeds(2, 5), 1);
        CHECK.due("22: no days", hens.seeds(0, 5), -4);
        CHECK.due("22: what lies there", CHECK.farm("n0000;e00;e09;").seeds(1, 5), 2);
    }

    private static void sixtyDays() {
        NobodyLookedYesterday hens = CHECK.farm("n0000;");
        CHECK.due("22: fifty-nine", hens.seeds(59, 5), 58);
        CHECK.due("22: sixty", hens.seeds(60, 5), 59);
        CHECK.due("22: sixty-one", hens.seeds(61, 5), -6);
    }

    /** "(whatever it takes)". */
    private static void whateverItTakes() {
        CHECK.due("22: nine minutes in no TIME", CHECK.farm("n0090;t0;e00;").seeds(3, 1), 3);
    }

    // DRAWS of z 1: 16838, 5758, 10113, .. Of six nests one looks at 2, then at 3.

    /** Six nests of these LIKINGS: whether she lays at 3, by 5758 modulo all but nest 2's. */
    private static void laysAtThree(String what, String likings, int due) {
        StringBuilder farm = new StringBuilder();
        for (int nest = 0; nest < 6; nest++) {
            farm.append("n000").append(likings.charAt(nest)).append(';');
        }
        CHECK.due("22: " + what, CHECK.farm(farm + "h10;").seeds(2, 1), due);
    }

    /** 5758 modulo 11 is 5. */
    private static void atTheLowerEdgeOfANest() {
        laysAtThree("5 is the first of nest 3", "239123", 1);
        laysAtThree("5 is the last of nest 1", "339122", 0);
        laysAtThree("5 is the first of nest 1", "519122", 0);
        laysAtThree("5 is the first of nest 4", "229133", 0);
    }

    private static void atTheUpperEdgeOfANest() {
        laysAtThree("5 is the last of nest 3", "129323", 1);
        laysAtThree("5 is behind nest 3", "129233", 0);
        laysAtThree("5 is in the middle of nest 3", "119522", 1);
    }

    /** 5758 modulo 2 is 0: the first nest that weighs anything. */
    private static void aDrawOfNothing() {
        laysAtThree("0 is nest 3, ahead of it none weighs", "009110", 1);
        laysAtThree("0 is nest 1", "019100", 0);
        laysAtThree("0 is nest 0", "109100", 0);
        laysAtThree("0 is nest 4", "009011", 0);
    }

    /** 5758 modulo 13 is 12. */
    private static void theGreatestDraw() {
        laysAtThree("12 is nest 3, the last that weighs", "669100", 1);
        laysAtThree("12 is nest 4, the last that weighs", "659110", 0);
        laysAtThree("12 is nest 5, the last that weighs", "639121", 0);
    }

    /** "if all of these are 0, each is 1": of four nests one looks at 2, 5758 modulo 3 is 1, then at 1. */
    private static void allWeightsNothing() {
        CHECK.due("22: none liked: nest 1", CHECK.farm("n0000;n0000;n0000;n0000;h10;").seeds(2, 1), 1);
        CHECK.due("22: none liked but 2", CHECK.farm("n0000;n0000;n0009;n0000;h10;").seeds(2, 1), 1);
        CHECK.due("22: 0 liked", CHECK.farm("n0001;n0000;n0000;n0000;h10;").seeds(2, 1), 0);
    }

    /** "she lays by lot with WEIGHTS", a LOT hen too, whatever DAY it is. */
    private static void byLotWhateverSheIs() {
        NobodyLookedYesterday hens = CHECK.farm("n0009;n0000;n0000;n0000;h20;");
        CHECK.due("22: LOT of DAY 0 at 0, by lot at 1", hens.seeds(2, 1), 1);
        hens.set(0, 1);
        CHECK.due("22: LIKES just 0", hens.seeds(2, 1), 0);
        hens.set(0, 5);
        // 0 has 9, 1 has 10: 5758 modulo 19 is 1.
        hens.set(1, 1);
        CHECK.due("22: TOLD, at 0", hens.seeds(2, 1), 0);
        hens.set(0, 0);
        // 20 each: 5758 modulo 60 is 58: nest 3.
        CHECK.due("22: NEAR, at 3", hens.seeds(2, 1), 0);
    }

    /** Of two nests she lays where one did not look: DRAWS of z 1 below 2 are 0, 1, 1, 0. */
    private static void whereSheMay() {
        NobodyLookedYesterday hens = CHECK.farm("n0009;n0000;h10;");
        CHECK.due("22: 0, at 1", hens.seeds(1, 1), 0);
        CHECK.due("22: 1, at 0", hens.seeds(2, 1), 1);
        CHECK.due("22: 1, at 0", hens.seeds(3, 1), 1);
        CHECK.due("22: 0", hens.seeds(4, 1), 3);
    }

    /** One nest: it is looked at each day, and she lays there all the same. */
    private static void allLookedAt() {
        for (int kind = 0; kind < 6; kind++) {
            CHECK.due("22: one nest, KIND " + kind, CHECK.farm("n0000;h" + kind + "0;").seeds(9, -5), 8);
        }
    }

    /** DRAWS of z 1 below 2 are 0, 1, 1, 0: at 0 the two lie for a NIGHT and for two. */
    private static void theRatTakes() {
        NobodyLookedYesterday hens = CHECK.farm("n0009;n0000;h10;r1;");
        CHECK.due("22: RAT 1 leaves the last of two", hens.seeds(4, 1), 2);
        hens.set(3, 2);
        CHECK.due("22: RAT 2 leaves both", hens.seeds(4, 1), 3);
        CHECK.due("22: the first day ahead of the RAT", CHECK.farm("n0000;r1;e09;").seeds(1, 1), 1);
    }

    private static NobodyLookedYesterday yard() {
        NobodyLookedYesterday hens = CHECK.farm("n0010;n1321;n4412;n7723;n9904;n2815;t9;h43;r6;e00;e11;e22;");
        hens.look(0);
        hens.night();
        hens.image();
        hens.look(5);
        hens.row(2);
        hens.feed('r');
        return hens;
    }

    /** "in mind": nothing is done, and the same seed gives the same again. */
    private static void nothingIsDone() {
        NobodyLookedYesterday hens = yard();
        int found = hens.seeds(60, 123456789);
        hens.seeds(1, -1);
        CHECK.due("22: the same again", hens.seeds(60, 123456789), found);
        CHECK.dueAll("22: nothing is done", Portrait.of(hens), Portrait.of(yard()));
    }
}
