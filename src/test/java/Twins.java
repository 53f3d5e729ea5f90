import java.util.function.Supplier;

/**
 * Two objects made alike, of which one hears a call that is refused: it answers the number,
 * and nothing changes but how many there were.
 */
final class Twins {
    interface Call {
        long answer(NobodyLookedYesterday hens);
    }

    private final Check check;
    private final String promise;

    Twins(Check check, String promise) {
        this.check = check;
        this.promise = promise;
    }

    void refused(String what, Supplier<NobodyLookedYesterday> maker, int number, Call call) {
        NobodyLookedYesterday one = maker.get();
        NobodyLookedYesterday other = maker.get();
        String name = promise + ": " + what;
        check.due(name, call.answer(one), number);
        for (int refusal = 1; refusal <= 6; refusal++) {
            check.due(name + ": how many -" + refusal, one.count(10 + refusal) - other.count(10 + refusal),
                refusal == -number ? 1 : 0);
        }
        check.dueAll(name + ": nothing changes", Portrait.of(one), Portrait.of(other));
    }

    /** Of longs 4000000000000000000 less the number. */
    void refusedLong(String what, Supplier<NobodyLookedYesterday> maker, int number, Call call) {
        refused(what, maker, number, hens -> 4000000000000000000L - call.answer(hens));
    }
}
