/**
 * A watch on a burning mountain: what is seen (shakes, tilts, gas), the laws
 * and levels that follow from it, and a tree of what may come.
 *
 * All rows are made in the constructor and used again, so that no later call
 * makes an object.
 */
public final class MountainWatch {
    public static final int NONE = -6, UNKNOWN = -1, OUTSIDE = -2, STATE = -3, FULL = -4, NO = -5;

    // A tilt may itself be -1 or -5, so tiltAt refuses with numbers that no tilt can be.
    private static final int TILT_UNKNOWN = -1000001, TILT_NO = -1000005;

    private static final int LAST_DAY = 999;
    private static final int TOP_LEVEL = 4;
    private static final int MOST_NUMBER = 10000;
    private static final int MOST_SPAN = 30;
    private static final int MOST_REST = 30;
    private static final int MOST_HOLD_DAYS = 100;
    private static final int HUNDREDTHS = 100;

    private static final int BY_HOLD = 20, BY_REST = 21, BY_WORD = 22, BY_DRILL = 23;

    private final Shakes shakes;
    private final Readings readings;
    private final Laws laws;
    private final Messages messages;
    private final Tree tree;
    private int today;
    private int level;
    private int calm;
    private int restDays;
    private int holdLevel;
    private int holdEnd;
    private int drillLevel;

    public MountainWatch() {
        shakes = new Shakes();
        readings = new Readings();
        laws = new Laws();
        messages = new Messages();
        tree = new Tree();
        restDays = 3;
    }

    // ---- 1 what is seen

    public int shake(long bands) {
        if (bands < 1 || bands > Shakes.MOST_BANDS) {
            return OUTSIDE;
        }
        if (shakes.count >= Shakes.MOST) {
            return FULL;
        }
        return shakes.add(bands, today);
    }

    public int about(int shake, int what) {
        if (!shakes.has(shake)) {
            return UNKNOWN;
        }
        if (isWithin(what, 10, 9 + Shakes.BANDS)) {
            return shakes.band(shake, what - 10);
        }
        switch (what) {
            case 0:
                return shakes.days[shake];
            case 1:
                return shakes.kinds[shake];
            case 2:
                return shakes.families[shake];
            default:
                return OUTSIDE;
        }
    }

    public int alike(int a, int b) {
        if (!shakes.has(a) || !shakes.has(b)) {
            return UNKNOWN;
        }
        return oneIf(shakes.areAlike(a, b));
    }

    public int likeness(int n) {
        if (!isWithin(n, 1, 100)) {
            return OUTSIDE;
        }
        int was = shakes.asked;
        shakes.askLikeness(n);
        return was;
    }

    public int family(int i) {
        return i == -1 ? shakes.countFamilies() : shakes.familyByOrder(i);
    }

    public int kin(int shake) {
        return shakes.has(shake) ? shakes.countKin(shake) : UNKNOWN;
    }

    public int tilt(int v) {
        if (!isWithin(v, -10000, 10000)) {
            return OUTSIDE;
        }
        readings.tilts[today] = v;
        return 1;
    }

    public int gas(int v) {
        if (!isWithin(v, 0, 10000)) {
            return OUTSIDE;
        }
        readings.gases[today] = v;
        return 1;
    }

    public int tiltAt(int day) {
        return isDay(day) ? readings.tilts[day] : TILT_UNKNOWN;
    }

    public int gasOf(int day) {
        return isDay(day) ? readings.gases[day] : UNKNOWN;
    }

    // ---- 2 laws, levels

    public int law(int level, int measure, int number, int span) {
        if (!isLawLevel(level) || !isWithin(measure, 0, Laws.LAST_MEASURE)
                || !isWithin(number, 1, MOST_NUMBER) || !isWithin(span, 1, MOST_SPAN)) {
            return OUTSIDE;
        }
        if (laws.count >= Laws.MOST) {
            return FULL;
        }
        return laws.add(level, measure, number, span);
    }

    public int change(int law, int level, int number) {
        if (!laws.has(law)) {
            return UNKNOWN;
        }
        if (!isLawLevel(level) || !isWithin(number, 1, MOST_NUMBER)) {
            return OUTSIDE;
        }
        laws.levels[law] = level;
        laws.numbers[law] = number;
        return 1;
    }

    public int measure(int law, int day) {
        return laws.has(law) && isDay(day) ? measured(law, day) : UNKNOWN;
    }

    public int isTrue(int law, int day) {
        return laws.has(law) && isDay(day) ? oneIf(holdsTrue(law, day)) : UNKNOWN;
    }

    public int rest(int days) {
        if (!isWithin(days, 1, MOST_REST)) {
            return OUTSIDE;
        }
        int was = restDays;
        restDays = days;
        return was;
    }

    public int next() {
        if (today >= LAST_DAY) {
            return STATE;
        }
        endToday();
        today++;
        readings.carryTiltTo(today);
        return level;
    }

    public int hold(int level, int days) {
        if (!isLawLevel(level) || !isWithin(days, 1, MOST_HOLD_DAYS)) {
            return OUTSIDE;
        }
        holdLevel = level;
        holdEnd = today + days;
        return holdEnd;
    }

    public int release() {
        int was = heldToday();
        holdLevel = 0;
        return was;
    }

    public int word(int level) {
        return isLevel(level) ? setLevel(level, BY_WORD) : OUTSIDE;
    }

    public int drill(int level) {
        if (!isLevel(level)) {
            return OUTSIDE;
        }
        drillLevel = level;
        return messages.add(true, today, level, BY_DRILL);
    }

    public int message(boolean drills, int number, int what) {
        if (!messages.isKept(drills, number)) {
            return UNKNOWN;
        }
        int place = Messages.place(drills, number);
        switch (what) {
            case 0:
                return messages.days[place];
            case 1:
                return messages.levels[place];
            case 2:
                return messages.reasons[place];
            default:
                return OUTSIDE;
        }
    }

    public int told(int what) {
        switch (what) {
            case 0:
                return today;
            case 1:
                return level;
            case 2:
                return calm;
            case 3:
                return wantedToday();
            case 4:
                return messages.count;
            case 5:
                return messages.drillCount;
            case 6:
                return heldToday();
            case 7:
                return shakes.count;
            case 8:
                return laws.count;
            case 9:
                return tree.count;
            case 10:
                return drillLevel;
            default:
                return OUTSIDE;
        }
    }

    // ---- 3 the tree

    public int node(int parent, int low, int high) {
        if (!tree.has(parent)) {
            return UNKNOWN;
        }
        if (!areBounds(low, high)) {
            return OUTSIDE;
        }
        if (tree.count >= Tree.MOST) {
            return FULL;
        }
        if (!tree.takesChild(parent)) {
            return NO;
        }
        return tree.add(parent, low, high);
    }

    public int share(int node, int low, int high) {
        if (node == 0 || !tree.has(node)) {
            return UNKNOWN;
        }
        if (!areBounds(low, high)) {
            return OUTSIDE;
        }
        tree.lows[node] = low;
        tree.highs[node] = high;
        return 1;
    }

    public int fear(int node, boolean is) {
        if (!tree.has(node)) {
            return UNKNOWN;
        }
        int was = oneIf(tree.feared[node]);
        tree.feared[node] = is;
        return was;
    }

    public int sound() {
        return oneIf(tree.isSound());
    }

    public int chance(int node, int side) {
        if (!tree.has(node)) {
            return UNKNOWN;
        }
        if (!isWithin(side, 0, 1)) {
            return OUTSIDE;
        }
        if (!tree.isSound()) {
            return NO;
        }
        return tree.chanceOf(node, side == 1);
    }

    public int ofNode(int node, int what) {
        if (!tree.has(node)) {
            return UNKNOWN;
        }
        switch (what) {
            case 0:
                return tree.parents[node];
            case 1:
                return tree.lows[node];
            case 2:
                return tree.highs[node];
            case 3:
                return oneIf(tree.feared[node]);
            case 4:
                return tree.childCounts[node];
            case 5:
                return tree.depths[node];
            default:
                return OUTSIDE;
        }
    }

    // ---- what the calls share

    private static boolean isWithin(int n, int least, int most) {
        return n >= least && n <= most;
    }

    private static int oneIf(boolean is) {
        return is ? 1 : 0;
    }

    private static boolean isLevel(int level) {
        return isWithin(level, 0, TOP_LEVEL);
    }

    /** Laws and holds ask for a level above 0. */
    private static boolean isLawLevel(int level) {
        return isWithin(level, 1, TOP_LEVEL);
    }

    private static boolean areBounds(int low, int high) {
        return low >= 0 && low <= high && high <= HUNDREDTHS;
    }

    private boolean isDay(int day) {
        return isWithin(day, 0, today);
    }

    private int measured(int law, int day) {
        int span = laws.spans[law];
        int first = Math.max(0, day - span + 1);
        int measure = laws.measures[law];
        switch (measure) {
            case 3:
                return shakes.countOfDays(first, day);
            case 4:
                return shakes.countOfGreatestFamily(first, day);
            case 5:
                return readings.tiltMove(day, span);
            case 6:
                return readings.gasOfDays(first, day);
            default:
                return shakes.countOfKind(measure, first, day);
        }
    }

    private boolean holdsTrue(int law, int day) {
        return measured(law, day) >= laws.numbers[law];
    }

    private int heldToday() {
        return today < holdEnd ? holdLevel : 0;
    }

    private int wantedToday() {
        int wanted = heldToday();
        for (int law = 0; law < laws.count; law++) {
            if (laws.levels[law] > wanted && holdsTrue(law, today)) {
                wanted = laws.levels[law];
            }
        }
        return wanted;
    }

    private int reasonToRaise(int wanted) {
        for (int law = 0; law < laws.count; law++) {
            if (laws.levels[law] == wanted && holdsTrue(law, today)) {
                return law;
            }
        }
        return BY_HOLD;
    }

    private void endToday() {
        int wanted = wantedToday();
        if (wanted > level) {
            setLevel(wanted, reasonToRaise(wanted));
            return;
        }
        calm = wanted < level ? calm + 1 : 0;
        if (calm >= restDays && level > 0) {
            setLevel(level - 1, BY_REST);
        }
    }

    private int setLevel(int to, int reason) {
        level = to;
        calm = 0;
        return messages.add(false, today, to, reason);
    }

    /** The shakes, each with its family, which is kept up to date at every change. */
    private static final class Shakes {
        static final int MOST = 80;
        static final int BANDS = 6;
        static final int BAND_BASE = 101;
        /** 101 to the sixth, less 1: every band at 100. */
        static final long MOST_BANDS = 1061520150600L;

        final int[] bands = new int[MOST * BANDS];
        final int[] days = new int[MOST];
        final int[] kinds = new int[MOST];
        final int[] families = new int[MOST];
        final int[] tally = new int[MOST];
        int count;
        int asked = 90;

        boolean has(int shake) {
            return shake >= 0 && shake < count;
        }

        int band(int shake, int i) {
            return bands[shake * BANDS + i];
        }

        /** The caller has looked that there is room and that the bands are as told. */
        int add(long told, int day) {
            int number = count;
            long left = told;
            for (int i = 0; i < BANDS; i++) {
                bands[number * BANDS + i] = (int) (left % BAND_BASE);
                left /= BAND_BASE;
            }
            days[number] = day;
            kinds[number] = kindOf(number);
            joinFamilies(number);
            count = number + 1;
            return number;
        }

        int kindOf(int shake) {
            int low = band(shake, 0) + band(shake, 1) + band(shake, 2);
            int high = band(shake, 3) + band(shake, 4) + band(shake, 5);
            if (low >= 2 * high) {
                return 0;
            }
            return high >= 2 * low ? 1 : 2;
        }

        long product(int a, int b) {
            long sum = 0;
            for (int i = 0; i < BANDS; i++) {
                sum += band(a, i) * band(b, i);
            }
            return sum;
        }

        boolean areAlike(int a, int b) {
            long together = product(a, b);
            return 100 * together * together >= asked * product(a, a) * product(b, b);
        }

        void askLikeness(int n) {
            asked = n;
            for (int shake = 0; shake < count; shake++) {
                joinFamilies(shake);
            }
        }

        /** Hangs a shake together with those of lesser numbers; later ones are not looked at yet. */
        void joinFamilies(int shake) {
            families[shake] = shake;
            for (int other = 0; other < shake; other++) {
                if (families[other] != families[shake] && areAlike(other, shake)) {
                    mergeFamilies(families[other], families[shake], shake);
                }
            }
        }

        void mergeFamilies(int a, int b, int lastShake) {
            int least = Math.min(a, b);
            for (int shake = 0; shake <= lastShake; shake++) {
                if (families[shake] == a || families[shake] == b) {
                    families[shake] = least;
                }
            }
        }

        int countFamilies() {
            int found = 0;
            for (int shake = 0; shake < count; shake++) {
                if (families[shake] == shake) {
                    found++;
                }
            }
            return found;
        }

        int familyByOrder(int i) {
            int found = 0;
            for (int shake = 0; shake < count; shake++) {
                if (families[shake] == shake) {
                    if (found == i) {
                        return shake;
                    }
                    found++;
                }
            }
            return NONE;
        }

        int countKin(int shake) {
            int found = 0;
            for (int other = 0; other < count; other++) {
                if (families[other] == families[shake]) {
                    found++;
                }
            }
            return found;
        }

        boolean isOfDays(int shake, int first, int last) {
            return days[shake] >= first && days[shake] <= last;
        }

        int countOfDays(int first, int last) {
            int found = 0;
            for (int shake = 0; shake < count; shake++) {
                if (isOfDays(shake, first, last)) {
                    found++;
                }
            }
            return found;
        }

        int countOfKind(int kind, int first, int last) {
            int found = 0;
            for (int shake = 0; shake < count; shake++) {
                if (kinds[shake] == kind && isOfDays(shake, first, last)) {
                    found++;
                }
            }
            return found;
        }

        int countOfGreatestFamily(int first, int last) {
            int most = 0;
            for (int shake = 0; shake < count; shake++) {
                // A family's least number comes ahead of its other shakes, so this clears in time.
                tally[shake] = 0;
                if (isOfDays(shake, first, last)) {
                    int family = families[shake];
                    tally[family]++;
                    most = Math.max(most, tally[family]);
                }
            }
            return most;
        }
    }

    /** Tilts and gas, a place for each day. */
    private static final class Readings {
        static final int DAYS = LAST_DAY + 1;

        /** The tilt at each day up to today: one of an earlier day goes on until another is told. */
        final int[] tilts = new int[DAYS];
        final int[] gases = new int[DAYS];

        Readings() {
            tilts[0] = TILT_NO;
        }

        void carryTiltTo(int day) {
            if (day > 0 && day < DAYS) {
                tilts[day] = tilts[day - 1];
            }
        }

        int tiltMove(int day, int span) {
            if (day < span || tilts[day] == TILT_NO || tilts[day - span] == TILT_NO) {
                return 0;
            }
            return Math.abs(tilts[day] - tilts[day - span]);
        }

        int gasOfDays(int first, int last) {
            int sum = 0;
            for (int day = first; day <= last; day++) {
                sum += gases[day];
            }
            return sum;
        }
    }

    private static final class Laws {
        static final int MOST = 8;
        static final int LAST_MEASURE = 6;

        final int[] levels = new int[MOST];
        final int[] measures = new int[MOST];
        final int[] numbers = new int[MOST];
        final int[] spans = new int[MOST];
        int count;

        boolean has(int law) {
            return law >= 0 && law < count;
        }

        /** The caller has looked that there is room. */
        int add(int level, int measure, int number, int span) {
            int law = count;
            levels[law] = level;
            measures[law] = measure;
            numbers[law] = number;
            spans[law] = span;
            count = law + 1;
            return law;
        }
    }

    /**
     * Both sorts of messages share one room: those of the level fill it from
     * the front and those of drills from the back, so that neither needs rows
     * for all of it.
     */
    private static final class Messages {
        static final int MOST = 200;

        final int[] days = new int[MOST];
        final int[] levels = new int[MOST];
        final int[] reasons = new int[MOST];
        int count;
        int drillCount;
        int kept;
        int keptDrills;

        static int place(boolean ofDrill, int number) {
            return ofDrill ? MOST - number : number - 1;
        }

        boolean isKept(boolean ofDrill, int number) {
            return number >= 1 && number <= (ofDrill ? keptDrills : kept);
        }

        int add(boolean ofDrill, int day, int level, int reason) {
            int number = takeNumber(ofDrill);
            if (kept + keptDrills < MOST) {
                int place = place(ofDrill, number);
                days[place] = day;
                levels[place] = level;
                reasons[place] = reason;
                countKept(ofDrill);
            }
            return number;
        }

        int takeNumber(boolean ofDrill) {
            if (ofDrill) {
                drillCount++;
                return drillCount;
            }
            count++;
            return count;
        }

        void countKept(boolean ofDrill) {
            if (ofDrill) {
                keptDrills++;
            } else {
                kept++;
            }
        }
    }

    /** The tree of what may come; a child's number is always above its parent's. */
    private static final class Tree {
        static final int MOST = 24;
        static final int MOST_CHILDREN = 6;
        static final int MOST_DEPTH = 4;
        /** 100 to the fourth: how a chance of 1 is told. */
        static final int SURE = 100000000;

        final int[] parents = new int[MOST];
        final int[] lows = new int[MOST];
        final int[] highs = new int[MOST];
        final int[] depths = new int[MOST];
        final int[] childCounts = new int[MOST];
        final boolean[] feared = new boolean[MOST];
        final int[] chances = new int[MOST];
        final boolean[] served = new boolean[MOST];
        int count;

        Tree() {
            parents[0] = NONE;
            lows[0] = HUNDREDTHS;
            highs[0] = HUNDREDTHS;
            count = 1;
        }

        boolean has(int node) {
            return node >= 0 && node < count;
        }

        boolean takesChild(int parent) {
            return depths[parent] < MOST_DEPTH && childCounts[parent] < MOST_CHILDREN;
        }

        /** The caller has looked that there is room and that the parent takes a child. */
        int add(int parent, int low, int high) {
            int number = count;
            parents[number] = parent;
            lows[number] = low;
            highs[number] = high;
            depths[number] = depths[parent] + 1;
            childCounts[parent]++;
            count = number + 1;
            return number;
        }

        boolean isSound() {
            for (int node = 0; node < count; node++) {
                if (childCounts[node] > 0 && !hasShares(node)) {
                    return false;
                }
            }
            return true;
        }

        /** Bounds that reach 100 from both sides always leave room for shares that are 100 together. */
        boolean hasShares(int parent) {
            int low = 0;
            int high = 0;
            for (int child = parent + 1; child < count; child++) {
                if (parents[child] == parent) {
                    low += lows[child];
                    high += highs[child];
                }
            }
            return low <= HUNDREDTHS && high >= HUNDREDTHS;
        }

        /** For a sound tree: from the last node on, so that children come ahead of their parents. */
        int chanceOf(int asked, boolean greatest) {
            for (int node = count - 1; node >= asked; node--) {
                if (childCounts[node] > 0) {
                    chances[node] = chanceByShares(node, greatest);
                } else {
                    chances[node] = feared[node] ? SURE : 0;
                }
            }
            return chances[asked];
        }

        /**
         * Every child has its low share; what is left of 100 goes to the best
         * child up to its high share, then to the next best. All shares are
         * whole then, and a chance d below node 0 is a multiple of 100 to the
         * d, so the division leaves nothing to cut down or up.
         */
        int chanceByShares(int parent, boolean greatest) {
            int left = HUNDREDTHS;
            long sum = 0;
            for (int child = parent + 1; child < count; child++) {
                if (parents[child] == parent) {
                    served[child] = false;
                    left -= lows[child];
                    sum += (long) lows[child] * chances[child];
                }
            }
            for (int turn = 0; turn < childCounts[parent] && left > 0; turn++) {
                int best = bestUnserved(parent, greatest);
                if (best > 0) {
                    int more = Math.min(left, highs[best] - lows[best]);
                    served[best] = true;
                    left -= more;
                    sum += (long) more * chances[best];
                }
            }
            return (int) (sum / HUNDREDTHS);
        }

        /** 0 if all are served: node 0 is nobody's child. */
        int bestUnserved(int parent, boolean greatest) {
            int best = 0;
            for (int child = parent + 1; child < count; child++) {
                if (parents[child] == parent && !served[child]
                        && (best == 0 || isBetter(chances[child], chances[best], greatest))) {
                    best = child;
                }
            }
            return best;
        }

        static boolean isBetter(int chance, int than, boolean greatest) {
            return greatest ? chance > than : chance < than;
        }
    }
}
