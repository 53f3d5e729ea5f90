/**
 * A hen with nests in a yard: each night she lays in one where nobody looked
 * the day before. The document (../shared/DOC.md) says what each call answers;
 * the words in capitals here are its terms.
 */
public final class NobodyLookedYesterday {

    private static final int NOBODY = -1;
    private static final int OTHER = -2;
    private static final int STATE = -3;
    private static final int BELOW = -4;
    private static final int ROOM = -6;
    private static final int NONE = -9;
    private static final long LONG_REFUSALS = 4000000000000000000L;

    private static final int KIND_LIKES = 1;
    private static final int KIND_LOT = 2;
    private static final int KIND_AWAY = 3;
    private static final int KIND_SLY = 4;
    private static final int KIND_TOLD = 5;
    private static final int KINDS = 6;

    private static final int KIND = 0;
    private static final int FIGURE = 1;
    private static final int TIME = 2;
    private static final int RAT = 3;
    private static final int FIGURES = 4;
    private static final int[] LEAST = {0, 0, 0, 1};
    private static final int[] GREATEST = {5, 9, 40, 9};

    private static final int NEST_ROOM = 6;
    private static final int SET_ROOM = 64;
    private static final int AGE_ROOM = 10;
    private static final int EGGS_OF_AN_AGE = 9;
    private static final int LETTER_ROOM = 80;
    private static final int ROW_ROOM = 8;
    private static final int GREATEST_LETTER = 255;
    private static final int GREATEST_DIGIT = 9;
    private static final int GREATEST_DAY = 9999;
    private static final int PLAN_DAYS = 3;
    private static final int EACH_DAYS = 30;
    private static final int LEAD_DAYS = 6;
    private static final int SETTLE_NIGHTS = 30;
    private static final int SEED_DAYS = 60;

    private final Yard yard = new Yard();
    private final Yard kept = new Yard();
    private final Yard mind = new Yard();
    private final Planner planner = new Planner();
    private final FarmText text = new FarmText();
    private final int[] told = new int[ROW_ROOM];
    private final int[] laid = new int[KINDS * ROW_ROOM];
    private final int[] refusals = new int[7];
    private int toldCount;
    private boolean isKept;

    public NobodyLookedYesterday() {
    }

    public int feed(int letter) {
        if (letter < 0) {
            return refuse(BELOW);
        }
        if (letter > GREATEST_LETTER || text.length >= LETTER_ROOM) {
            return refuse(ROOM);
        }
        return text.append(letter);
    }

    public int farm() {
        mind.copyFrom(yard);
        int answer = text.readInto(mind);
        text.length = 0;
        if (answer > 0) {
            yard.copyFrom(mind);
        }
        return answer;
    }

    public int nest(int nest, int what) {
        if (isNoNest(nest)) {
            return refuse(NOBODY);
        }
        switch (what) {
            case 0: return yard.xs[nest];
            case 1: return yard.ys[nest];
            case 2: return yard.minutes[nest];
            case 3: return yard.likings[nest];
            case 4: return yard.eggsAt(nest);
            case 5: return yard.greatestAge(nest);
            case 6: return weightTonight(nest);
            case 7: return yard.looked >> nest & 1;
            default: return refuse(OTHER);
        }
    }

    public int set(int what, int v) {
        if (what < 0 || what >= FIGURES) {
            return refuse(OTHER);
        }
        if (v < LEAST[what]) {
            return refuse(BELOW);
        }
        if (v > GREATEST[what]) {
            return refuse(ROOM);
        }
        int was = yard.figures[what];
        yard.figures[what] = v;
        return was;
    }

    public int look(int nest) {
        if (isNoNest(nest)) {
            return refuse(NOBODY);
        }
        int bit = 1 << nest;
        if ((yard.looked & bit) != 0) {
            return refuse(STATE);
        }
        if (yard.minutes[nest] > yard.timeLeft()) {
            return refuse(ROOM);
        }
        int eggs = yard.takeEggs(bit);
        yard.found += eggs;
        return eggs;
    }

    public int night() {
        if (yard.nests == 0) {
            return refuse(STATE);
        }
        if (yard.day >= GREATEST_DAY) {
            return refuse(ROOM);
        }
        int where = yard.laysAmong(yard.allNests());
        yard.passNight(where);
        return where;
    }

    public int tonight(int what) {
        if (what < 0 || what > 1) {
            return refuse(OTHER);
        }
        if (yard.nests == 0) {
            return refuse(STATE);
        }
        int all = yard.allNests();
        return what == 0 ? yard.laysAmong(all) : yard.mayAmong(all);
    }

    public long likely(int nest, int part) {
        if (isNoNest(nest)) {
            return LONG_REFUSALS - refuse(NOBODY);
        }
        if (part < 0 || part > 1) {
            return LONG_REFUSALS - refuse(OTHER);
        }
        int together = yard.weigh(yard.mayAmong(yard.allNests()));
        int divisor = commonDivisor(yard.weights[nest], together);
        if (divisor < 1) {
            return 0L;
        }
        return (part == 0 ? yard.weights[nest] : together) / divisor;
    }

    public int plan(int n, int what) {
        if (what < 0 || what > 1) {
            return refuse(OTHER);
        }
        if (n < 1) {
            return refuse(BELOW);
        }
        if (n > PLAN_DAYS) {
            return refuse(ROOM);
        }
        if (yard.nests == 0) {
            return refuse(STATE);
        }
        int most = planner.mostFound(yard, n);
        return what == 0 ? most : planner.firstSet;
    }

    public int each(int set, int n) {
        if (set >> yard.nests != 0) {
            return refuse(NOBODY);
        }
        if (n < 1) {
            return refuse(BELOW);
        }
        if (n > EACH_DAYS) {
            return refuse(ROOM);
        }
        if (yard.nests == 0) {
            return refuse(STATE);
        }
        mind.copyFrom(yard);
        mind.looked = 0;
        int found = 0;
        for (int day = 0; day < n; day++) {
            found += mind.takeEggs(set);
            mind.passNight(mind.laysAmong(mind.allNests()));
        }
        return found;
    }

    public int shut() {
        return yard.nests == 0 ? refuse(STATE) : planner.leastShutting(yard);
    }

    public int lead(int nest) {
        return isNoNest(nest) ? refuse(NOBODY) : planner.fewestDays(yard, nest);
    }

    public int row(int nest) {
        if (nest < 0) {
            return refuse(BELOW);
        }
        if (nest >= NEST_ROOM || toldCount >= ROW_ROOM) {
            return refuse(ROOM);
        }
        told[toldCount] = nest;
        toldCount++;
        return toldCount;
    }

    public int ways() {
        if (yard.nests == 0) {
            return refuse(STATE);
        }
        int kinds = 0;
        for (int kind = 0; kind < KINDS; kind++) {
            layRow(kind);
            if (firstUntrue(kind) == NONE) {
                kinds |= 1 << kind;
            }
        }
        return kinds;
    }

    public int soon() {
        if (yard.nests == 0) {
            return refuse(STATE);
        }
        int nights = 0;
        for (int kind = 0; kind < KINDS; kind++) {
            layRow(kind);
            for (int other = 0; other < kind; other++) {
                nights = Math.max(nights, nightsUntilUnlike(kind, other));
            }
        }
        return nights;
    }

    public int settle(int n) {
        if (n < 0) {
            return refuse(BELOW);
        }
        if (n > SETTLE_NIGHTS) {
            return refuse(ROOM);
        }
        if (yard.nests == 0) {
            return refuse(STATE);
        }
        mind.copyFrom(yard);
        for (int night = 0; night < n; night++) {
            mind.passNight(mind.laysAmong(mind.allNests()));
        }
        return mind.allEggs();
    }

    public int without(int nest) {
        if (isNoNest(nest)) {
            return refuse(NOBODY);
        }
        return yard.laysAmong(yard.allNests() & ~(1 << nest));
    }

    public int put(int x, int y, int liking) {
        if (x < 0 || y < 0 || liking < 0) {
            return refuse(BELOW);
        }
        if (x > GREATEST_DIGIT || y > GREATEST_DIGIT || liking > GREATEST_DIGIT) {
            return refuse(ROOM);
        }
        mind.copyFrom(yard);
        if (!mind.addNest(x, y, 0, liking)) {
            return refuse(ROOM);
        }
        return mind.laysAmong(mind.allNests());
    }

    public int been(int age) {
        if (age < 0) {
            return refuse(BELOW);
        }
        if (age >= AGE_ROOM) {
            return refuse(ROOM);
        }
        for (int nest = 0; nest < yard.nests; nest++) {
            if (yard.eggs[nest * AGE_ROOM + age] > 0) {
                return nest;
            }
        }
        return NONE;
    }

    public int judge() {
        if (yard.nests == 0) {
            return refuse(STATE);
        }
        int kind = yard.figures[KIND];
        layRow(kind);
        int untrue = firstUntrue(kind);
        toldCount = 0;
        return untrue;
    }

    public int seeds(int n, int z) {
        if (n < 1) {
            return refuse(BELOW);
        }
        if (n > SEED_DAYS) {
            return refuse(ROOM);
        }
        if (yard.nests == 0) {
            return refuse(STATE);
        }
        mind.copyFrom(yard);
        int seed = z;
        int found = 0;
        for (int day = 0; day < n; day++) {
            seed = nextSeed(seed);
            found += mind.takeEggs(1 << drawBelow(mind.nests, seed));
            seed = nextSeed(seed);
            int together = mind.weigh(mind.mayAmong(mind.allNests()));
            mind.passNight(mind.nestAtWeight(drawBelow(together, seed)));
        }
        return found;
    }

    public int clear() {
        int had = toldCount;
        toldCount = 0;
        return had;
    }

    public int image() {
        kept.copyFrom(yard);
        isKept = true;
        return yard.day;
    }

    public int restore() {
        if (!isKept) {
            return refuse(STATE);
        }
        yard.copyFrom(kept);
        return yard.day;
    }

    public int count(int what) {
        switch (what) {
            case 0: return yard.nests;
            case 1: return yard.day;
            case 2: return yard.allEggs();
            case 3: return yard.last;
            case 4: return yard.looked;
            case 5: return yard.before;
            case 6: return yard.timeLeft();
            case 7: return text.length;
            case 8: return toldCount;
            case 9: return yard.found;
            default: return what >= 11 && what <= 16 ? refusals[what - 10] : NONE;
        }
    }

    private int refuse(int number) {
        int place = -number;
        if (place >= 0 && place < refusals.length) {
            refusals[place]++;
        }
        return number;
    }

    private boolean isNoNest(int nest) {
        return nest < 0 || nest >= yard.nests;
    }

    private int weightTonight(int nest) {
        yard.weigh(yard.mayAmong(yard.allNests()));
        return yard.weights[nest];
    }

    /** Lays in mind, as a hen of this KIND, for as many nights as the longest ROW has. */
    private void layRow(int kind) {
        mind.copyFrom(yard);
        mind.figures[KIND] = kind;
        for (int night = 0; night < ROW_ROOM; night++) {
            int where = mind.laysAmong(mind.allNests());
            laid[kind * ROW_ROOM + night] = where;
            mind.passNight(where);
        }
    }

    /** The first place of the told ROW that the laid row of this KIND does not bear out. */
    private int firstUntrue(int kind) {
        for (int place = 0; place < toldCount; place++) {
            if (told[place] != laid[kind * ROW_ROOM + place]) {
                return place;
            }
        }
        return NONE;
    }

    /** Behind how many nights the laid rows of two KINDS are unlike; 0 they are alike. */
    private int nightsUntilUnlike(int kind, int other) {
        for (int night = 0; night < ROW_ROOM; night++) {
            if (laid[kind * ROW_ROOM + night] != laid[other * ROW_ROOM + night]) {
                return night + 1;
            }
        }
        return 0;
    }

    private static int nextSeed(int seed) {
        return seed * 1103515245 + 12345;
    }

    private static int drawBelow(int bound, int seed) {
        return bound < 1 ? 0 : (seed & 0x7fffffff) / 65536 % bound;
    }

    /** Euclid's; the numbers are below 1000, so 64 steps are far more than it needs. */
    private static int commonDivisor(int a, int b) {
        int greater = a;
        int rest = b;
        for (int step = 0; step < 64 && rest != 0; step++) {
            int next = greater % rest;
            greater = rest;
            rest = next;
        }
        return greater;
    }

    /** All that an IMAGE holds: the nests, the hen, the SETTINGS and how the days went. */
    private static final class Yard {

        private final int[] xs = new int[NEST_ROOM];
        private final int[] ys = new int[NEST_ROOM];
        private final int[] minutes = new int[NEST_ROOM];
        private final int[] likings = new int[NEST_ROOM];
        /** How many EGGS of each AGE: those of a nest stand together. */
        private final int[] eggs = new int[NEST_ROOM * AGE_ROOM];
        /** KIND, FIGURE, TIME, RAT. */
        private final int[] figures = {0, 0, 10, 9};
        /** What the last weighing gave; no part of what there is. */
        private final int[] weights = new int[NEST_ROOM];
        private int nests;
        private int last = NONE;
        private int looked;
        private int before;
        private int day;
        private int found;

        void copyFrom(Yard other) {
            System.arraycopy(other.xs, 0, xs, 0, NEST_ROOM);
            System.arraycopy(other.ys, 0, ys, 0, NEST_ROOM);
            System.arraycopy(other.minutes, 0, minutes, 0, NEST_ROOM);
            System.arraycopy(other.likings, 0, likings, 0, NEST_ROOM);
            System.arraycopy(other.figures, 0, figures, 0, FIGURES);
            nests = other.nests;
            before = other.before;
            found = other.found;
            copyCourse(other);
        }

        /** Only what looks and NIGHTS change and what she lays by: enough between minds of one yard. */
        void copyCourse(Yard other) {
            System.arraycopy(other.eggs, 0, eggs, 0, NEST_ROOM * AGE_ROOM);
            last = other.last;
            looked = other.looked;
            day = other.day;
        }

        boolean addNest(int x, int y, int minutesThere, int liking) {
            if (nests >= NEST_ROOM) {
                return false;
            }
            xs[nests] = x;
            ys[nests] = y;
            minutes[nests] = minutesThere;
            likings[nests] = liking;
            nests++;
            return true;
        }

        boolean addEgg(int nest, int age) {
            if (nest < 0 || nest >= nests || age < 0 || age >= AGE_ROOM) {
                return false;
            }
            int place = nest * AGE_ROOM + age;
            if (eggs[place] >= EGGS_OF_AN_AGE) {
                return false;
            }
            eggs[place]++;
            return true;
        }

        boolean change(int what, int v) {
            if (v < LEAST[what] || v > GREATEST[what]) {
                return false;
            }
            figures[what] = v;
            return true;
        }

        int allNests() {
            return (1 << nests) - 1;
        }

        int eggsAt(int nest) {
            int sum = 0;
            int end = (nest + 1) * AGE_ROOM;
            for (int place = nest * AGE_ROOM; place < end; place++) {
                sum += eggs[place];
            }
            return sum;
        }

        int allEggs() {
            int sum = 0;
            for (int nest = 0; nest < nests; nest++) {
                sum += eggsAt(nest);
            }
            return sum;
        }

        int greatestAge(int nest) {
            for (int age = AGE_ROOM - 1; age >= 0; age--) {
                if (eggs[nest * AGE_ROOM + age] > 0) {
                    return age;
                }
            }
            return NONE;
        }

        int minutesOf(int set) {
            int sum = 0;
            for (int nest = 0; nest < nests; nest++) {
                if ((set >> nest & 1) == 1) {
                    sum += minutes[nest];
                }
            }
            return sum;
        }

        int timeLeft() {
            return figures[TIME] - minutesOf(looked);
        }

        /** Looks at all nests of a set, whatever it takes: how many EGGS were there. */
        int takeEggs(int set) {
            int taken = 0;
            for (int nest = 0; nest < nests; nest++) {
                if ((set >> nest & 1) == 1) {
                    taken += emptyNest(nest);
                }
            }
            looked |= set;
            return taken;
        }

        private int emptyNest(int nest) {
            int taken = 0;
            int end = (nest + 1) * AGE_ROOM;
            for (int place = nest * AGE_ROOM; place < end; place++) {
                taken += eggs[place];
                eggs[place] = 0;
            }
            return taken;
        }

        /** Where she MAY lay tonight, if just these nests were there. */
        int mayAmong(int present) {
            int unlooked = present & ~looked;
            return unlooked != 0 ? unlooked : present;
        }

        /** WEIGHT of each nest where she MAY lay, 0 of the others: all together. */
        int weigh(int may) {
            int together = 0;
            for (int nest = 0; nest < nests; nest++) {
                weights[nest] = (may >> nest & 1) == 1 ? weightOf(nest) : 0;
                together += weights[nest];
            }
            return together > 0 ? together : weighAlike(may);
        }

        private int weighAlike(int may) {
            for (int nest = 0; nest < nests; nest++) {
                weights[nest] = may >> nest & 1;
            }
            return Integer.bitCount(may);
        }

        private int weightOf(int nest) {
            int from = last >= 0 && last < nests ? last : 0;
            int near = 20 - Math.abs(xs[nest] - xs[from]) - Math.abs(ys[nest] - ys[from]);
            int away = nest == last ? 0 : near;
            switch (figures[KIND]) {
                case KIND_LIKES: return likings[nest];
                case KIND_LOT: return 1;
                case KIND_AWAY: return away;
                case KIND_SLY: return away + figures[FIGURE] * Math.max(0, 9 - eggsAt(nest));
                case KIND_TOLD: return likings[nest] + (nest == figures[FIGURE] ? 10 : 0);
                default: return near;
            }
        }

        /** Where she would lay tonight, if just these nests were there; NONE if these are none. */
        int laysAmong(int present) {
            int may = mayAmong(present);
            if (figures[KIND] == KIND_LOT) {
                return nestByLot(may);
            }
            weigh(may);
            int where = NONE;
            int greatest = 0;
            for (int nest = 0; nest < nests; nest++) {
                if (weights[nest] > greatest) {
                    greatest = weights[nest];
                    where = nest;
                }
            }
            return where;
        }

        private int nestByLot(int may) {
            int howMany = Integer.bitCount(may);
            if (howMany == 0) {
                return NONE;
            }
            int ahead = day * (figures[FIGURE] + 1) % howMany;
            for (int nest = 0; nest < nests; nest++) {
                if ((may >> nest & 1) == 1) {
                    if (ahead == 0) {
                        return nest;
                    }
                    ahead--;
                }
            }
            return NONE;
        }

        /** Where a number below all weights together falls, nest by nest. */
        int nestAtWeight(int number) {
            int rest = number;
            for (int nest = 0; nest < nests; nest++) {
                if (rest < weights[nest]) {
                    return nest;
                }
                rest -= weights[nest];
            }
            return NONE;
        }

        /** A NIGHT in which she lays there: the caller asks where ahead of it. */
        void passNight(int where) {
            for (int nest = 0; nest < nests; nest++) {
                ageEggs(nest * AGE_ROOM);
            }
            if (where >= 0 && where < nests) {
                eggs[where * AGE_ROOM] = 1;
                last = where;
            }
            before = looked;
            looked = 0;
            day++;
        }

        private void ageEggs(int first) {
            for (int age = AGE_ROOM - 1; age > 0; age--) {
                eggs[first + age] = age < figures[RAT] ? eggs[first + age - 1] : 0;
            }
            eggs[first] = 0;
        }
    }

    /** Goes through the sets that TIME allows: PLANS, SHUT, LEAD. */
    private static final class Planner {

        private final Yard[] minds = {new Yard(), new Yard(), new Yard()};
        private final int[] allowed = new int[SET_ROOM];
        private final int[] heaps = new int[NEST_ROOM];
        private final int[] sums = new int[SET_ROOM];
        private int allowedCount;
        private int firstSet;

        /** Sets rise, so that the first of several is the least. */
        private void listAllowed(Yard yard) {
            int end = 1 << yard.nests;
            allowedCount = 0;
            for (int set = 0; set < end; set++) {
                if (yard.minutesOf(set) <= yard.figures[TIME]) {
                    allowed[allowedCount] = set;
                    allowedCount++;
                }
            }
        }

        /** FOUND by PLANS in 1 to 3 days; firstSet is then the set of the first day. */
        int mostFound(Yard yard, int days) {
            listAllowed(yard);
            for (int i = 0; i < minds.length; i++) {
                minds[i].copyFrom(yard);
            }
            minds[0].looked = 0;
            return mostFrom(this, 0, days);
        }

        /** Depth counts the days behind: minds[depth] is how that day begins. */
        private static int mostFrom(Planner planner, int depth, int days) {
            if (depth < 0 || depth >= planner.minds.length) {
                return 0;
            }
            if (days <= 1 || depth + 1 == planner.minds.length) {
                return planner.mostToday(depth);
            }
            Yard today = planner.minds[depth];
            Yard tomorrow = planner.minds[depth + 1];
            // No plan finds more than all that lies about and an EGG of each NIGHT between.
            int atMost = today.allEggs() + days - 1;
            int most = -1;
            for (int i = 0; i < planner.allowedCount && most < atMost; i++) {
                tomorrow.copyCourse(today);
                int found = tomorrow.takeEggs(planner.allowed[i]);
                tomorrow.passNight(tomorrow.laysAmong(tomorrow.allNests()));
                found += mostFrom(planner, depth + 1, days - 1);
                if (found > most) {
                    most = found;
                    planner.noteFirst(depth, planner.allowed[i]);
                }
            }
            return most;
        }

        private void noteFirst(int depth, int set) {
            if (depth == 0) {
                firstSet = set;
            }
        }

        /** What a last day gives. Each part of an allowed set is allowed, so its sum is there. */
        private int mostToday(int depth) {
            Yard today = minds[depth];
            for (int nest = 0; nest < today.nests; nest++) {
                heaps[nest] = today.eggsAt(nest);
            }
            int most = 0;
            noteFirst(depth, 0);
            for (int i = 1; i < allowedCount; i++) {
                int set = allowed[i];
                sums[set] = sums[set & (set - 1)] + heaps[Integer.numberOfTrailingZeros(set)];
                if (sums[set] > most) {
                    most = sums[set];
                    noteFirst(depth, set);
                }
            }
            return most;
        }

        int leastShutting(Yard yard) {
            listAllowed(yard);
            for (int i = 0; i < allowedCount; i++) {
                if (yard.nests - Integer.bitCount(allowed[i]) == 1) {
                    return allowed[i];
                }
            }
            return NONE;
        }

        int fewestDays(Yard yard, int nest) {
            if (yard.last == nest) {
                return 0;
            }
            listAllowed(yard);
            Yard mind = minds[0];
            mind.copyFrom(yard);
            if (mind.figures[KIND] == KIND_SLY) {
                mind.figures[KIND] = KIND_AWAY;
            }
            int reached = laidByAnySet(mind);
            for (int days = 1; days <= LEAD_DAYS; days++) {
                if ((reached >> nest & 1) == 1) {
                    return days;
                }
                int further = 0;
                mind.day++;
                for (int from = 0; from < mind.nests; from++) {
                    mind.last = from;
                    further |= (reached >> from & 1) == 1 ? laidByAnySet(mind) : 0;
                }
                reached = further;
            }
            return NONE;
        }

        /** The nests (bits) where she lays tonight by one or another of the allowed sets. */
        private int laidByAnySet(Yard mind) {
            int all = mind.allNests();
            int laid = 0;
            for (int i = 0; i < allowedCount; i++) {
                mind.looked = allowed[i];
                int where = mind.laysAmong(all);
                if (where >= 0) {
                    laid |= 1 << where;
                }
            }
            return laid;
        }
    }

    /** The letters of a FARM as they come. */
    private static final class FarmText {

        private final int[] letters = new int[LETTER_ROOM];
        private int length;

        int append(int letter) {
            if (length < LETTER_ROOM) {
                letters[length] = letter;
                length++;
            }
            return length;
        }

        /** Puts the FARM into a yard: how many STATEMENTS, or the FAULT (the yard is half changed then). */
        int readInto(Yard yard) {
            int unfit = firstUnfit();
            if (unfit != NONE) {
                return -1000 - unfit;
            }
            int statements = 0;
            int place = 0;
            while (place < length) {
                int digits = digitsBehind(place);
                if (!applyStatement(yard, place, digits)) {
                    return -2000 - place;
                }
                statements++;
                place += digits + 2;
            }
            return statements;
        }

        /** The place of the first letter with which no FARM can go on; NONE if it is whole. */
        private int firstUnfit() {
            if (length == 0) {
                return 0;
            }
            int place = 0;
            while (place < length) {
                int least = leastDigits(letters[place]);
                if (least == 0) {
                    return place;
                }
                int digits = digitsBehind(place);
                place += digits + 1;
                if (digits < least || letterAt(place) != ';') {
                    return place;
                }
                place++;
            }
            return NONE;
        }

        private boolean applyStatement(Yard yard, int place, int digits) {
            int first = digitAt(place + 1);
            int second = digitAt(place + 2);
            switch (letterAt(place)) {
                case 'n':
                    return yard.addNest(first, second, digitAt(place + 3), digitAt(place + 4));
                case 'h':
                    return yard.change(KIND, first) && yard.change(FIGURE, second);
                case 't':
                    return yard.change(TIME, digits == 1 ? first : first * 10 + second);
                case 'r':
                    return yard.change(RAT, first);
                case 'e':
                    return yard.addEgg(first, second);
                default:
                    return false;
            }
        }

        private static int leastDigits(int letter) {
            switch (letter) {
                case 'n': return 4;
                case 'h': return 2;
                case 'e': return 2;
                case 't': return 1;
                case 'r': return 1;
                default: return 0;
            }
        }

        /** How many digits stand behind a STATEMENT's first letter, but no more than it can have. */
        private int digitsBehind(int place) {
            int letter = letterAt(place);
            int most = letter == 't' ? 2 : leastDigits(letter);
            int digits = 0;
            while (digits < most && digitAt(place + 1 + digits) >= 0) {
                digits++;
            }
            return digits;
        }

        private int digitAt(int place) {
            int letter = letterAt(place);
            return letter >= '0' && letter <= '9' ? letter - '0' : NONE;
        }

        private int letterAt(int place) {
            return place >= 0 && place < length ? letters[place] : NONE;
        }
    }
}
