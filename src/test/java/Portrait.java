import java.util.Arrays;

/** All that calls can tell of an object, but its REFUSALS. Telling it uses the object up: make one just for it. */
final class Portrait {
    private final long[] seen = new long[400];
    private int length;

    static long[] of(NobodyLookedYesterday hens) {
        Portrait portrait = new Portrait();
        portrait.see(hens.count(7));
        portrait.see(hens.count(8));
        portrait.seeYard(hens);
        portrait.see(hens.judge());
        portrait.see(hens.farm());
        portrait.seeYard(hens);
        portrait.see(hens.restore());
        portrait.seeYard(hens);
        return Arrays.copyOf(portrait.seen, portrait.length);
    }

    private void see(long answer) {
        seen[length] = answer;
        length++;
    }

    private void seeYard(NobodyLookedYesterday hens) {
        for (int what : new int[] {0, 1, 2, 3, 4, 5, 6, 9}) {
            see(hens.count(what));
        }
        for (int what = 0; what < 4; what++) {
            int was = hens.set(what, 1);
            hens.set(what, was);
            see(was);
        }
        for (int nest = 0; nest < hens.count(0); nest++) {
            for (int what = 0; what < 8; what++) {
                see(hens.nest(nest, what));
            }
        }
        // How the EGGS stand by their AGES.
        for (int nights = 1; nights < 10; nights++) {
            see(hens.settle(nights));
        }
        see(hens.ways());
    }
}
