import com.sun.management.ThreadMXBean;
import java.lang.management.ManagementFactory;

/** "An object is used for at most 512 calls", and all of them live in one room: no call makes an object. */
final class RoomTest {
    private static final Check CHECK = new Check("RoomTest");
    private static final int CALLS = 512;
    private static final String FARM = "n0010;n1321;n4412;n7723;n9904;n2815;t9;h43;e00;";

    public static void main(String[] args) {
        // The first time is for the machine: what it makes for itself is not counted.
        use(CHECK.farm(FARM));
        ThreadMXBean thread = (ThreadMXBean) ManagementFactory.getThreadMXBean();
        NobodyLookedYesterday hens = CHECK.farm(FARM);
        long ahead = thread.getThreadAllocatedBytes(Thread.currentThread().getId());
        int calls = use(hens);
        long made = thread.getThreadAllocatedBytes(Thread.currentThread().getId()) - ahead;
        CHECK.due("512 calls", calls, CALLS);
        CHECK.due("bytes made by them are few: " + made, made < 100_000 ? 1 : 0, 1);
        dearestCallsEnd();
        CHECK.finish();
    }

    private static int use(NobodyLookedYesterday hens) {
        int calls = 0;
        for (int round = 0; calls < CALLS; round++) {
            calls += act(hens, round);
            calls += think(hens, round);
        }
        return calls;
    }

    private static int act(NobodyLookedYesterday hens, int round) {
        hens.feed(round % 2 == 0 ? 't' : 'x');
        hens.farm();
        hens.nest(round % 7, round % 9);
        hens.set(round % 5, round % 7);
        hens.look(round % 7);
        hens.night();
        hens.tonight(round % 3);
        hens.likely(round % 7, round % 3);
        hens.row(round % 7);
        hens.clear();
        hens.image();
        hens.restore();
        hens.count(round % 18);
        return 13;
    }

    private static int think(NobodyLookedYesterday hens, int round) {
        hens.plan(1 + round % 3, round % 2);
        hens.each(round % 64, 30);
        hens.shut();
        hens.lead(round % 6);
        hens.ways();
        hens.soon();
        hens.settle(30);
        hens.without(round % 6);
        hens.put(round % 10, 3, 4);
        hens.been(round % 10);
        hens.judge();
        hens.seeds(60, round);
        hens.count(0);
        hens.count(1);
        hens.count(2);
        hens.count(9);
        hens.count(11);
        hens.count(12);
        hens.count(13);
        return 19;
    }

    /** Six nests, all 64 sets allowed, three days: the dearest of all calls. */
    private static void dearestCallsEnd() {
        NobodyLookedYesterday hens = CHECK.farm("n0000;n0000;n0000;n0000;n0000;n0000;h49;");
        for (int call = 0; call < CALLS - 41; call++) {
            CHECK.due("plan ends", hens.plan(3, call % 2), call % 2 == 0 ? 2 : 0);
        }
    }
}
