import java.util.ArrayList;
import java.util.HashMap;
import java.util.List;
import java.util.Map;
import java.util.TreeSet;

/** The document once more, told plainly and without care for speed: what ModelTest holds the class against. */
final class PlainModel {

    record Nest(int x, int y, int minutes, int liking) { }

    /** A day of the yard; nothing in it is changed, each step answers a new one. */
    static final class Day {
        List<Nest> nests = new ArrayList<>();
        /** {nest, age} each. */
        List<int[]> eggs = new ArrayList<>();
        int kind;
        int figure;
        int time = 10;
        int rat = 9;
        Integer last;
        TreeSet<Integer> looked = new TreeSet<>();
        TreeSet<Integer> before = new TreeSet<>();
        int day;
        int found;

        Day twin() {
            Day d = new Day();
            d.nests = new ArrayList<>(nests);
            d.eggs = new ArrayList<>(eggs);
            d.kind = kind;
            d.figure = figure;
            d.time = time;
            d.rat = rat;
            d.last = last;
            d.looked = new TreeSet<>(looked);
            d.before = new TreeSet<>(before);
            d.day = day;
            d.found = found;
            return d;
        }

        TreeSet<Integer> all() {
            TreeSet<Integer> s = new TreeSet<>();
            for (int i = 0; i < nests.size(); i++) {
                s.add(i);
            }
            return s;
        }

        int eggsAt(int nest) {
            return (int) eggs.stream().filter(e -> e[0] == nest).count();
        }

        TreeSet<Integer> may(TreeSet<Integer> there) {
            TreeSet<Integer> free = new TreeSet<>(there);
            free.removeAll(looked);
            return free.isEmpty() ? there : free;
        }

        int near(int nest) {
            Nest from = nests.get(last == null ? 0 : last);
            Nest to = nests.get(nest);
            return 20 - (Math.abs(from.x - to.x) + Math.abs(from.y - to.y));
        }

        int away(int nest) {
            return last != null && last == nest ? 0 : near(nest);
        }

        int bareWeight(int nest) {
            return switch (kind) {
                case 0 -> near(nest);
                case 1 -> nests.get(nest).liking();
                case 2 -> 1;
                case 3 -> away(nest);
                case 4 -> away(nest) + figure * Math.max(9 - eggsAt(nest), 0);
                default -> nests.get(nest).liking() + (figure == nest ? 10 : 0);
            };
        }

        Map<Integer, Integer> weights(TreeSet<Integer> there) {
            Map<Integer, Integer> w = new HashMap<>();
            boolean zero = true;
            for (int nest : may(there)) {
                w.put(nest, bareWeight(nest));
                zero &= bareWeight(nest) == 0;
            }
            if (zero) {
                w.replaceAll((k, v) -> 1);
            }
            return w;
        }

        int lays(TreeSet<Integer> there) {
            List<Integer> may = new ArrayList<>(may(there));
            if (may.isEmpty()) {
                return -9;
            }
            if (kind == 2) {
                return may.get(day * (figure + 1) % may.size());
            }
            Map<Integer, Integer> w = weights(there);
            int best = may.get(0);
            for (int nest : may) {
                if (w.get(nest) > w.get(best)) {
                    best = nest;
                }
            }
            return best;
        }

        int lays() {
            return lays(all());
        }

        Day nightAt(int where) {
            Day d = twin();
            d.eggs.clear();
            for (int[] egg : eggs) {
                if (egg[1] + 1 < rat) {
                    d.eggs.add(new int[] {egg[0], egg[1] + 1});
                }
            }
            d.eggs.add(new int[] {where, 0});
            d.last = where;
            d.before = d.looked;
            d.looked = new TreeSet<>();
            d.day++;
            return d;
        }

        Day night() {
            return nightAt(lays());
        }

        Day lookedAt(TreeSet<Integer> set) {
            Day d = twin();
            d.eggs.removeIf(e -> set.contains(e[0]));
            d.looked.addAll(set);
            return d;
        }

        Day unlooked() {
            Day d = twin();
            d.looked.clear();
            return d;
        }

        int minutesOf(TreeSet<Integer> set) {
            return set.stream().mapToInt(i -> nests.get(i).minutes()).sum();
        }

        List<TreeSet<Integer>> allowed() {
            List<TreeSet<Integer>> sets = new ArrayList<>();
            for (int bits = 0; bits < 1 << nests.size(); bits++) {
                TreeSet<Integer> set = setOf(bits);
                if (minutesOf(set) <= time) {
                    sets.add(set);
                }
            }
            return sets;
        }

        /** {how many, the first set} */
        int[] plan(int n) {
            int[] best = {-1, 0};
            for (TreeSet<Integer> set : allowed()) {
                Day behind = lookedAt(set);
                int found = eggs.size() - behind.eggs.size();
                if (n > 1) {
                    found += behind.night().plan(n - 1)[0];
                }
                if (found > best[0]) {
                    best = new int[] {found, bits(set)};
                }
            }
            return best;
        }

        int lead(int nest, int days) {
            if (last != null && last == nest) {
                return 0;
            }
            if (days == 0) {
                return 99;
            }
            int best = 99;
            TreeSet<Integer> tried = new TreeSet<>();
            for (TreeSet<Integer> set : allowed()) {
                Day behind = lookedAt(set);
                if (tried.add(behind.lays())) {
                    best = Math.min(best, 1 + behind.night().lead(nest, days - 1));
                }
            }
            return best;
        }

        List<Integer> rowOf(int kindThen, int nights) {
            Day d = twin();
            d.kind = kindThen;
            List<Integer> row = new ArrayList<>();
            for (int i = 0; i < nights; i++) {
                row.add(d.lays());
                d = d.night();
            }
            return row;
        }
    }

    static TreeSet<Integer> setOf(int bits) {
        TreeSet<Integer> set = new TreeSet<>();
        for (int i = 0; i < 32; i++) {
            if ((bits & 1 << i) != 0) {
                set.add(i);
            }
        }
        return set;
    }

    static int bits(TreeSet<Integer> set) {
        return set.stream().mapToInt(i -> 1 << i).sum();
    }

    Day now = new Day();
    Day kept;
    String letters = "";
    List<Integer> row = new ArrayList<>();
    int[] refusals = new int[7];

    int refuse(int number) {
        refusals[-number]++;
        return number;
    }

    boolean noNest(int nest) {
        return !now.all().contains(nest);
    }

    boolean bare() {
        return now.nests.isEmpty();
    }

    int feed(int letter) {
        if (letter < 0) {
            return refuse(-4);
        }
        if (letter > 255 || letters.length() == 80) {
            return refuse(-6);
        }
        letters += (char) letter;
        return letters.length();
    }

    static final String STATEMENT = "n[0-9]{4}|h[0-9]{2}|t[0-9]{1,2}|r[0-9]|e[0-9]{2}";

    /** Whether letters could come behind so that it is a FARM; the 80 are left aside. */
    static boolean canGoOn(String text) {
        String[] parts = text.split(";", -1);
        for (int i = 0; i + 1 < parts.length; i++) {
            if (!parts[i].matches(STATEMENT)) {
                return false;
            }
        }
        String rest = parts[parts.length - 1];
        return rest.matches("|n[0-9]{0,4}|h[0-9]{0,2}|t[0-9]{0,2}|r[0-9]?|e[0-9]{0,2}");
    }

    int farm() {
        String text = letters;
        letters = "";
        for (int i = 1; i <= text.length(); i++) {
            if (!canGoOn(text.substring(0, i))) {
                return -1000 - (i - 1);
            }
        }
        if (!text.endsWith(";")) {
            return -1000 - text.length();
        }
        Day d = now.twin();
        int place = 0;
        int statements = 0;
        for (String s : text.split(";")) {
            if (!apply(d, s)) {
                return -2000 - place;
            }
            place += s.length() + 1;
            statements++;
        }
        now = d;
        return statements;
    }

    static boolean apply(Day d, String s) {
        int number = Integer.parseInt(s.substring(1));
        int a = s.charAt(1) - '0';
        int b = s.charAt(s.length() > 2 ? 2 : 1) - '0';
        switch (s.charAt(0)) {
            case 'n':
                d.nests.add(new Nest(a, b, number / 10 % 10, number % 10));
                return d.nests.size() <= 6;
            case 'h':
                d.kind = a;
                d.figure = b;
                return a <= 5;
            case 't':
                d.time = number;
                return number <= 40;
            case 'r':
                d.rat = number;
                return number >= 1;
            default:
                d.eggs.add(new int[] {a, b});
                return a < d.nests.size() && d.eggs.stream().filter(e -> e[0] == a && e[1] == b).count() <= 9;
        }
    }

    int nest(int nest, int what) {
        if (noNest(nest)) {
            return refuse(-1);
        }
        Nest n = now.nests.get(nest);
        switch (what) {
            case 0: return n.x();
            case 1: return n.y();
            case 2: return n.minutes();
            case 3: return n.liking();
            case 4: return now.eggsAt(nest);
            case 5: return now.eggs.stream().filter(e -> e[0] == nest).mapToInt(e -> e[1]).max().orElse(-9);
            case 6: return now.weights(now.all()).getOrDefault(nest, 0);
            case 7: return now.looked.contains(nest) ? 1 : 0;
            default: return refuse(-2);
        }
    }

    int set(int what, int v) {
        if (what < 0 || what > 3) {
            return refuse(-2);
        }
        if (v < 0 || what == 3 && v == 0) {
            return refuse(-4);
        }
        if (v > (what == 0 ? 5 : what == 2 ? 40 : 9)) {
            return refuse(-6);
        }
        int was = what == 0 ? now.kind : what == 1 ? now.figure : what == 2 ? now.time : now.rat;
        now = now.twin();
        switch (what) {
            case 0 -> now.kind = v;
            case 1 -> now.figure = v;
            case 2 -> now.time = v;
            default -> now.rat = v;
        }
        return was;
    }

    int timeLeft() {
        return now.time - now.minutesOf(now.looked);
    }

    int look(int nest) {
        if (noNest(nest)) {
            return refuse(-1);
        }
        if (now.looked.contains(nest)) {
            return refuse(-3);
        }
        if (now.nests.get(nest).minutes() > timeLeft()) {
            return refuse(-6);
        }
        int eggs = now.eggsAt(nest);
        now = now.lookedAt(setOf(1 << nest));
        now.found += eggs;
        return eggs;
    }

    int night() {
        if (bare()) {
            return refuse(-3);
        }
        now = now.night();
        return now.last;
    }

    int tonight(int what) {
        if (what != 0 && what != 1) {
            return refuse(-2);
        }
        if (bare()) {
            return refuse(-3);
        }
        return what == 0 ? now.lays() : bits(now.may(now.all()));
    }

    long likely(int nest, int part) {
        if (noNest(nest)) {
            return 4000000000000000000L - refuse(-1);
        }
        if (part != 0 && part != 1) {
            return 4000000000000000000L - refuse(-2);
        }
        Map<Integer, Integer> w = now.weights(now.all());
        int above = w.getOrDefault(nest, 0);
        int below = w.values().stream().mapToInt(i -> i).sum();
        for (int d = below; d > 1; d--) {
            if (above % d == 0 && below % d == 0) {
                above /= d;
                below /= d;
            }
        }
        return part == 0 ? above : below;
    }

    int plan(int n, int what) {
        if (what != 0 && what != 1) {
            return refuse(-2);
        }
        if (n < 1) {
            return refuse(-4);
        }
        if (n > 3) {
            return refuse(-6);
        }
        if (bare()) {
            return refuse(-3);
        }
        return now.unlooked().plan(n)[what];
    }

    int each(int set, int n) {
        if (!now.all().containsAll(setOf(set))) {
            return refuse(-1);
        }
        if (n < 1) {
            return refuse(-4);
        }
        if (n > 30) {
            return refuse(-6);
        }
        if (bare()) {
            return refuse(-3);
        }
        Day d = now.unlooked();
        int found = 0;
        for (int i = 0; i < n; i++) {
            Day behind = d.lookedAt(setOf(set));
            found += d.eggs.size() - behind.eggs.size();
            d = behind.night();
        }
        return found;
    }

    int shut() {
        if (bare()) {
            return refuse(-3);
        }
        for (TreeSet<Integer> set : now.allowed()) {
            if (set.size() + 1 == now.nests.size()) {
                return bits(set);
            }
        }
        return -9;
    }

    int lead(int nest) {
        if (noNest(nest)) {
            return refuse(-1);
        }
        Day d = now.unlooked();
        if (d.kind == 4) {
            d.kind = 3;
        }
        int days = d.lead(nest, 6);
        return days > 6 ? -9 : days;
    }

    int row(int nest) {
        if (nest < 0) {
            return refuse(-4);
        }
        if (nest > 5 || row.size() == 8) {
            return refuse(-6);
        }
        row.add(nest);
        return row.size();
    }

    int ways() {
        if (bare()) {
            return refuse(-3);
        }
        int kinds = 0;
        for (int kind = 0; kind < 6; kind++) {
            if (now.rowOf(kind, row.size()).equals(row)) {
                kinds += 1 << kind;
            }
        }
        return kinds;
    }

    /** How many unlike rows of so many nights the KINDS lay. */
    int unlike(int nights) {
        TreeSet<String> rows = new TreeSet<>();
        for (int kind = 0; kind < 6; kind++) {
            rows.add(now.rowOf(kind, nights).toString());
        }
        return rows.size();
    }

    int soon() {
        if (bare()) {
            return refuse(-3);
        }
        int nights = 0;
        while (unlike(nights) < unlike(8)) {
            nights++;
        }
        return nights;
    }

    int settle(int n) {
        if (n < 0) {
            return refuse(-4);
        }
        if (n > 30) {
            return refuse(-6);
        }
        if (bare()) {
            return refuse(-3);
        }
        Day d = now;
        for (int i = 0; i < n; i++) {
            d = d.night();
        }
        return d.eggs.size();
    }

    int without(int nest) {
        if (noNest(nest)) {
            return refuse(-1);
        }
        TreeSet<Integer> there = now.all();
        there.remove(nest);
        return now.lays(there);
    }

    int put(int x, int y, int liking) {
        if (Math.min(Math.min(x, y), liking) < 0) {
            return refuse(-4);
        }
        if (Math.max(Math.max(x, y), liking) > 9 || now.nests.size() == 6) {
            return refuse(-6);
        }
        Day d = now.twin();
        d.nests.add(new Nest(x, y, 7, liking));
        return d.lays();
    }

    int been(int age) {
        if (age < 0) {
            return refuse(-4);
        }
        if (age > 9) {
            return refuse(-6);
        }
        return now.eggs.stream().filter(e -> e[1] == age).mapToInt(e -> e[0]).min().orElse(-9);
    }

    int judge() {
        if (bare()) {
            return refuse(-3);
        }
        List<Integer> laid = now.rowOf(now.kind, row.size());
        List<Integer> told = row;
        row = new ArrayList<>();
        for (int i = 0; i < told.size(); i++) {
            if (!told.get(i).equals(laid.get(i))) {
                return i;
            }
        }
        return -9;
    }

    int seed;

    int draw(int n) {
        seed = seed * 1103515245 + 12345;
        return (seed >>> 16 & 0x7fff) % n;
    }

    int seeds(int n, int z) {
        if (n < 1) {
            return refuse(-4);
        }
        if (n > 60) {
            return refuse(-6);
        }
        if (bare()) {
            return refuse(-3);
        }
        seed = z;
        Day d = now;
        int found = 0;
        for (int i = 0; i < n; i++) {
            Day behind = d.lookedAt(setOf(1 << draw(d.nests.size())));
            found += d.eggs.size() - behind.eggs.size();
            List<Integer> lots = new ArrayList<>();
            Map<Integer, Integer> w = behind.weights(behind.all());
            for (int nest : new TreeSet<>(w.keySet())) {
                for (int k = 0; k < w.get(nest); k++) {
                    lots.add(nest);
                }
            }
            d = behind.nightAt(lots.get(draw(lots.size())));
        }
        return found;
    }

    int clear() {
        int had = row.size();
        row.clear();
        return had;
    }

    int image() {
        kept = now;
        return now.day;
    }

    int restore() {
        if (kept == null) {
            return refuse(-3);
        }
        now = kept;
        return now.day;
    }

    int count(int what) {
        switch (what) {
            case 0: return now.nests.size();
            case 1: return now.day;
            case 2: return now.eggs.size();
            case 3: return now.last == null ? -9 : now.last;
            case 4: return bits(now.looked);
            case 5: return bits(now.before);
            case 6: return timeLeft();
            case 7: return letters.length();
            case 8: return row.size();
            case 9: return now.found;
            case 11: case 12: case 13: case 14: case 15: case 16: return refusals[what - 10];
            default: return -9;
        }
    }
}
