import java.util.function.LongSupplier;

/** Counts the answers that are due and those that are not. A test's main ends with finish(). */
final class Check {
    private final String test;
    private int passed;
    private int failed;

    Check(String test) {
        this.test = test;
    }

    void due(String what, long got, long want) {
        if (got == want) {
            passed++;
        } else {
            failed++;
            System.out.println(test + ": " + what + " answered " + got + ", due is " + want);
        }
    }

    void dueAll(String what, long[] got, long... want) {
        due(what + ": how many", got.length, want.length);
        for (int i = 0; i < got.length && i < want.length; i++) {
            due(what + " [" + i + "]", got[i], want[i]);
        }
    }

    void finish() {
        System.out.println(test + ": " + passed + " passed, " + failed + " failed");
        if (failed != 0 || passed == 0) {
            System.exit(1);
        }
    }

    /** The call must answer the number of the refusal, count it, and change no other count. */
    void refused(String what, NobodyLookedYesterday hens, int number, LongSupplier call) {
        long[] want = counts(hens);
        want[9 - number]++;
        due(what, call.getAsLong(), number);
        dueAll(what + ": counts", counts(hens), want);
    }

    /** The same of a call that answers a long. */
    void refusedLong(String what, NobodyLookedYesterday hens, int number, LongSupplier call) {
        refused(what, hens, number, () -> 4000000000000000000L - call.getAsLong());
    }

    /** A new object into which a FARM was told; it must come whole. */
    NobodyLookedYesterday farm(String text) {
        NobodyLookedYesterday hens = new NobodyLookedYesterday();
        tell(hens, text);
        return hens;
    }

    void tell(NobodyLookedYesterday hens, String text) {
        int answer = read(hens, text);
        if (answer < 1) {
            due("farm of " + text, answer, 1);
        }
    }

    static int read(NobodyLookedYesterday hens, String text) {
        for (int i = 0; i < text.length(); i++) {
            hens.feed(text.charAt(i));
        }
        return hens.farm();
    }

    static void rowOf(NobodyLookedYesterday hens, int... nests) {
        for (int nest : nests) {
            hens.row(nest);
        }
    }

    /** count(0) .. count(9), then how many of each refusal. */
    static long[] counts(NobodyLookedYesterday hens) {
        long[] all = new long[16];
        for (int what = 0; what < 10; what++) {
            all[what] = hens.count(what);
        }
        for (int what = 11; what <= 16; what++) {
            all[what - 1] = hens.count(what);
        }
        return all;
    }
}
