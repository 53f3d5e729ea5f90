import java.util.Random;

/** Runs of calls drawn by fixed seeds: the class must answer as PlainModel does, each call and all counts. */
final class ModelTest {
    private final Random draw;
    private final NobodyLookedYesterday hens = new NobodyLookedYesterday();
    private final PlainModel model = new PlainModel();
    private final Check check;
    private final int run;
    private final int most;
    private int call;
    private int dear = 6;

    private ModelTest(Check check, int run, int most) {
        this.check = check;
        this.run = run;
        this.most = most;
        this.draw = new Random(run);
    }

    public static void main(String[] args) {
        Check check = new Check("ModelTest");
        int runs = args.length > 0 ? Integer.parseInt(args[0]) : 300;
        for (int run = 0; run < runs; run++) {
            new ModelTest(check, run, run % 4 == 0 ? 6 : 1 + run % 5).go();
        }
        check.finish();
    }

    private void go() {
        if (draw.nextInt(12) > 0) {
            tell(farmText());
        }
        for (call = 0; call < 60; call++) {
            step();
            long[] counts = Check.counts(hens);
            for (int i = 0; i < counts.length; i++) {
                due("count " + i, counts[i], model.count(i < 10 ? i : i + 1));
            }
        }
    }

    private void due(String what, long got, long want) {
        check.due("run " + run + " call " + call + ": " + what, got, want);
    }

    private void tell(String text) {
        for (int i = 0; i < text.length(); i++) {
            due("feed", hens.feed(text.charAt(i)), model.feed(text.charAt(i)));
        }
        due("farm " + text, hens.farm(), model.farm());
    }

    private String digits(int n) {
        StringBuilder s = new StringBuilder();
        for (int i = 0; i < n; i++) {
            s.append(draw.nextInt(10));
        }
        return s.toString();
    }

    private String farmText() {
        StringBuilder s = new StringBuilder();
        int nests = draw.nextInt(most + 1) + (most == 6 ? 1 : 0);
        for (int i = 0; i < nests; i++) {
            s.append('n').append(digits(2)).append(draw.nextInt(4)).append(digits(1)).append(';');
        }
        while (draw.nextInt(4) > 0) {
            s.append(statement());
        }
        return s.toString();
    }

    private String statement() {
        switch (draw.nextInt(6)) {
            case 0: return "h" + draw.nextInt(6) + digits(1) + ";";
            case 1: return "t" + (draw.nextInt(4) == 0 ? digits(2) : digits(1)) + ";";
            case 2: return "r" + digits(1) + ";";
            default: return "e" + draw.nextInt(most) + digits(1) + ";";
        }
    }

    private String spoiled(String text) {
        StringBuilder s = new StringBuilder(text);
        String some = "nhtre;0123456789 ";
        char c = some.charAt(draw.nextInt(some.length()));
        int place = draw.nextInt(s.length() + 1);
        if (draw.nextBoolean() || place == s.length()) {
            s.insert(place, c);
        } else if (draw.nextBoolean()) {
            s.setCharAt(place, c);
        } else {
            s.deleteCharAt(place);
        }
        return s.toString();
    }

    /** From just below what is right to just above it. */
    private int some(int least, int greatest) {
        int v = draw.nextInt(12);
        if (v == 0) {
            return least - 1;
        }
        if (v == 1) {
            return greatest + 1;
        }
        if (v == 2 && draw.nextInt(4) == 0) {
            return draw.nextInt();
        }
        return least + draw.nextInt(greatest - least + 1);
    }

    private int someNest() {
        return some(0, Math.max(0, model.count(0) - 1));
    }

    private void step() {
        switch (draw.nextInt(30)) {
            case 0:
                tell(farmText());
                return;
            case 1:
                tell(spoiled(farmText()));
                return;
            case 2: case 3: case 4: case 5:
                due("night", hens.night(), model.night());
                return;
            case 6: case 7: case 8: {
                int a = someNest();
                due("look " + a, hens.look(a), model.look(a));
                return;
            }
            case 9: case 10: {
                int a = some(0, 3);
                int b = some(a == 3 ? 1 : 0, a == 0 ? 5 : a == 2 ? 40 : 9);
                due("set " + a + " " + b, hens.set(a, b), model.set(a, b));
                return;
            }
            case 11: {
                int a = someNest();
                int b = some(0, 7);
                due("nest " + a + " " + b, hens.nest(a, b), model.nest(a, b));
                return;
            }
            case 12: {
                int a = some(0, 1);
                due("tonight " + a, hens.tonight(a), model.tonight(a));
                return;
            }
            case 13: case 14: {
                int a = someNest();
                int b = some(0, 1);
                due("likely " + a + " " + b, hens.likely(a, b), model.likely(a, b));
                return;
            }
            default:
                foresee();
        }
    }

    private void foresee() {
        switch (draw.nextInt(16)) {
            case 0: {
                int b = some(0, 1);
                int a = some(1, model.count(0) > 3 ? 2 : 3);
                if (model.count(0) > 3 && a > 2 && dear-- < 0) {
                    a = 2;
                }
                due("plan " + a + " " + b, hens.plan(a, b), model.plan(a, b));
                return;
            }
            case 1: {
                int a = some(0, (1 << model.count(0)) - 1);
                int b = some(1, 30);
                due("each " + a + " " + b, hens.each(a, b), model.each(a, b));
                return;
            }
            case 2:
                due("shut", hens.shut(), model.shut());
                return;
            case 3: case 4: {
                int a = someNest();
                due("lead " + a, hens.lead(a), model.lead(a));
                return;
            }
            case 5: case 6: {
                int a = draw.nextInt(3) > 0 && model.count(0) > 0
                    ? model.now.rowOf(model.now.kind, model.row.size() + 1).get(model.row.size()) : some(0, 5);
                due("row " + a, hens.row(a), model.row(a));
                return;
            }
            case 7:
                due("ways", hens.ways(), model.ways());
                return;
            case 8:
                due("soon", hens.soon(), model.soon());
                return;
            case 9: {
                int a = some(0, 30);
                due("settle " + a, hens.settle(a), model.settle(a));
                return;
            }
            case 10: {
                int a = someNest();
                due("without " + a, hens.without(a), model.without(a));
                return;
            }
            case 11: {
                int a = some(0, 9);
                int b = some(0, 9);
                int c = some(0, 9);
                due("put " + a + " " + b + " " + c, hens.put(a, b, c), model.put(a, b, c));
                return;
            }
            case 12: {
                int a = some(0, 9);
                due("been " + a, hens.been(a), model.been(a));
                return;
            }
            case 13: {
                int a = some(1, 60);
                int b = draw.nextInt();
                due("seeds " + a + " " + b, hens.seeds(a, b), model.seeds(a, b));
                return;
            }
            case 14:
                due("judge", hens.judge(), model.judge());
                return;
            default:
                keep();
        }
    }

    private void keep() {
        switch (draw.nextInt(4)) {
            case 0:
                due("image", hens.image(), model.image());
                return;
            case 1:
                due("restore", hens.restore(), model.restore());
                return;
            case 2:
                due("clear", hens.clear(), model.clear());
                return;
            default: {
                int a = some(-1, 17);
                due("count " + a, hens.count(a), model.count(a));
            }
        }
    }
}
