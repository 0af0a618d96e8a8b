/**
 * A flighty people, each of whom must own one thing that he can't lift.
 *
 * <p>All rows are made by the constructor and used again, so that no call makes an object.
 */
public final class StoneHeld {
    public static final int NONE = -1, BAD = -2, NO = -3, FULL = -4;

    private static final int MOST_THINGS = 7;
    private static final int MOST_PEOPLE = 7;
    private static final int KINDS = 6;
    private static final int MOST_WEIGHT = 30;
    private static final int MOST_STRENGTH = 9;
    private static final int MOST_AGE = 99;
    private static final int LAST_YEAR = 999;
    private static final int FARTHEST = 60;
    private static final int BEYOND = LAST_YEAR + FARTHEST;
    private static final int MOST_NUMBER = 99;
    private static final int MOST_TRIED = 60;
    private static final int MOST_SEEN = 5;
    private static final int MOST_NOTES = 6;
    private static final int MOST_MARKS = 6;
    private static final int MOST_UNDONE = 8;
    private static final int MOST_TEXT = 150;
    private static final int MOST_BYTE = 127;
    private static final int IMAGES = 2;
    private static final int MOST_SHOUTS = 6;
    private static final int MORE_BY_SHOUT = 5;
    private static final int TENTHS = 10;
    private static final int MOST_SEED = 999999;
    private static final int COUNTS = 10;
    private static final int FAULT = -10;
    private static final int BAD_BY_TEN = -10;
    private static final int NOT_SO_MANY = -5;

    private final World world = new World();
    private final Reader reader = new Reader();
    private final World[] images = new World[IMAGES];
    private int keptImages;
    private final Matching matching = new Matching();
    private final Answers answers = new Answers();
    private final Moment ahead = new Moment();
    private long above;
    private long below = 1;
    private int refusedBad;
    private int refusedNo;
    private int refusedFull;

    public StoneHeld() {
        for (int i = 0; i < IMAGES; i++) {
            images[i] = new World();
        }
    }

    // ---- a people

    public int people() {
        int were = world.ones;
        world.startAnew();
        return were;
    }

    public int thing(int kind, int weight) {
        if (!isWithin(kind, 0, KINDS - 1) || !isWithin(weight, 1, MOST_WEIGHT)) {
            return bad();
        }
        if (world.things >= MOST_THINGS) {
            return full();
        }
        return world.addThing(kind, weight);
    }

    public int one(int kind, int strength, int age) {
        if (!isWithin(kind, 0, KINDS - 1) || !isWithin(strength, 1, MOST_STRENGTH)
                || !isWithin(age, 0, MOST_AGE)) {
            return bad();
        }
        if (world.ones >= MOST_PEOPLE) {
            return full();
        }
        return world.addOne(kind, strength, age);
    }

    public int type(int c) {
        if (!isWithin(c, 0, MOST_BYTE)) {
            return bad();
        }
        if (reader.length >= MOST_TEXT) {
            return full();
        }
        return reader.append(c);
    }

    public int clear() {
        int had = reader.length;
        reader.length = 0;
        return had;
    }

    public int read() {
        int items = reader.readItems();
        if (items >= 0) {
            world.copyFrom(reader.draft);
        }
        return items;
    }

    // ---- years

    public int owns(int i, int t) {
        if (!world.hasOne(i) || !world.hasThing(t)) {
            return bad();
        }
        if (!world.mayGet(i) || world.ownerOf(t) != NONE) {
            return no();
        }
        world.remember();
        world.now.owned[i] = t;
        return world.holdsFor(t, i, 1);
    }

    public int leaves(int i) {
        if (!world.hasOne(i)) {
            return bad();
        }
        int t = world.now.owned[i];
        if (t == NONE) {
            return no();
        }
        world.remember();
        world.now.owned[i] = NONE;
        return t;
    }

    public int years(int n) {
        if (!isWithin(n, 1, FARTHEST)) {
            return bad();
        }
        // In the last YEAR none goes by, so there is none to be undone.
        if (world.now.year < LAST_YEAR) {
            world.remember();
        }
        world.passYears(world.now, n, LAST_YEAR);
        return world.now.countHere();
    }

    public int undo() {
        if (world.pasts <= 0) {
            return no();
        }
        world.bringBack();
        return world.now.year;
    }

    public int of(int i, int what) {
        if (!world.hasOne(i) || !isWithin(what, 0, 4)) {
            return bad();
        }
        return world.factOfOne(i, what);
    }

    public int about(int t, int what) {
        if (!world.hasThing(t) || !isWithin(what, 0, 2)) {
            return bad();
        }
        if (what == 0) {
            return world.thingKind[t];
        }
        return what == 1 ? world.thingWeight[t] : world.ownerOf(t);
    }

    // ---- who is held

    public int lifts(int i, int m) {
        if (!world.hasOne(i) || !isWithin(m, 0, FARTHEST)) {
            return bad();
        }
        return world.liftOf(i, m);
    }

    public int weighs(int t, int m) {
        if (!world.hasThing(t) || !isWithin(m, 0, FARTHEST)) {
            return bad();
        }
        return world.weightOf(t, m);
    }

    public int held() {
        int bits = 0;
        for (int i = 0; i < world.ones; i++) {
            if (world.now.isHere(i) && world.isHeldIn(world.now, i)) {
                bits |= 1 << i;
            }
        }
        return bits;
    }

    public int left(int m) {
        if (!isWithin(m, 0, FARTHEST)) {
            return bad();
        }
        ahead.copyFrom(world.now);
        world.passYears(ahead, m, BEYOND);
        return ahead.here;
    }

    public int when(int i) {
        if (!world.hasOne(i)) {
            return bad();
        }
        if (!world.now.isHere(i)) {
            return NONE;
        }
        int t = world.now.owned[i];
        int heldFor = world.hasThing(t) ? world.holdsFor(t, i, FARTHEST) : 0;
        return heldFor < FARTHEST ? heldFor + 1 : NONE;
    }

    public int lasts(int i, int t) {
        if (!world.hasOne(i) || !world.hasThing(t)) {
            return bad();
        }
        if (!world.now.isHere(i)) {
            return no();
        }
        return world.holdsFor(t, i, FARTHEST);
    }

    public int match(int m, int i) {
        if (!isWithin(m, 1, FARTHEST) || (i != NONE && !world.hasOne(i))) {
            bad();
            return BAD_BY_TEN;
        }
        matching.fill(world, m);
        int all = (1 << world.things) - 1;
        return i == NONE ? matching.most(0, all) : matching.firstThingOf(i, all);
    }

    public int light(int m) {
        if (!isWithin(m, 1, FARTHEST)) {
            return bad();
        }
        matching.fill(world, m);
        int here = world.now.countHere();
        int least = NONE;
        for (int set = 0; set < 1 << world.things; set++) {
            if (matching.most(0, set) == here) {
                int weight = world.toldWeight(set);
                least = least == NONE ? weight : Math.min(least, weight);
            }
        }
        return least;
    }

    public int two(int t, int k) {
        if (!world.hasThing(t) || k < NONE) {
            bad();
            return BAD_BY_TEN;
        }
        int pairs = 0;
        for (int i = 0; i < world.ones; i++) {
            for (int j = i + 1; j < world.ones; j++) {
                if (world.liftByTwo(t, i, j)) {
                    if (pairs == k) {
                        return 10 * i + j;
                    }
                    pairs++;
                }
            }
        }
        return k == NONE ? pairs : NOT_SO_MANY;
    }

    // ---- how strong he is

    public int seen(int i, int a, int x, int lifted) {
        if (!world.hasOne(i) || !isWithin(a, 0, MOST_AGE) || !isWithin(x, 0, MOST_TRIED)
                || !isWithin(lifted, 0, 1)) {
            return bad();
        }
        if (world.seenOnes.isFull()) {
            return full();
        }
        return world.seenOnes.add(i, a, x, lifted);
    }

    public int strong(int i, int what) {
        if (!world.hasOne(i) || !isWithin(what, 0, 2)) {
            return bad();
        }
        int strengths = world.fittingStrengths(i);
        if (what == 0) {
            return Integer.bitCount(strengths);
        }
        return what == 1 ? leastBit(strengths) : greatestBit(strengths);
    }

    public int tell(int i) {
        if (!world.hasOne(i)) {
            return bad();
        }
        int strengths = world.fittingStrengths(i);
        if (strengths == 0) {
            return NONE;
        }
        int best = NONE;
        int least = MOST_STRENGTH + 1;
        for (int b = 0; b <= 9; b++) {
            answers.fillByStrength(world.kind[i], strengths, 10 * b);
            for (int x = 0; x <= MOST_TRIED; x++) {
                int part = answers.greaterPart(x);
                if (part < least) {
                    least = part;
                    best = 100 * b + x;
                }
            }
        }
        return best;
    }

    public int note(int t, int w, int y, int x) {
        if (!world.hasThing(t) || !isWithin(w, 1, MOST_WEIGHT) || !isWithin(y, 0, MOST_NUMBER)
                || !isWithin(x, 0, MOST_NUMBER)) {
            return bad();
        }
        if (world.notes.isFull()) {
            return full();
        }
        return world.notes.add(t, w, y, x);
    }

    public int mark(int i, int s, int a, int x) {
        if (!world.hasOne(i) || !isWithin(s, 1, MOST_STRENGTH) || !isWithin(a, 0, MOST_AGE)
                || !isWithin(x, 0, MOST_NUMBER)) {
            return bad();
        }
        if (world.marks.isFull()) {
            return full();
        }
        return world.marks.add(i, s, a, x);
    }

    public int forget(int what) {
        if (!isWithin(what, 0, 2)) {
            return bad();
        }
        if (what == 0) {
            return world.seenOnes.drop();
        }
        return what == 1 ? world.notes.drop() : world.marks.drop();
    }

    public int is(int t) {
        return world.hasThing(t) ? world.fittingThingKinds(t) : bad();
    }

    public int look(int t) {
        if (!world.hasThing(t)) {
            return bad();
        }
        int fitting = world.fittingThingKinds(t);
        if (fitting == 0) {
            return NONE;
        }
        int best = NONE;
        int least = KINDS + 1;
        for (int y = 0; y <= FARTHEST; y++) {
            answers.fillByThingKind(fitting, world.thingWeight[t], y);
            int alike = answers.mostAlike();
            if (alike < least) {
                least = alike;
                best = y;
            }
        }
        return best;
    }

    public int kinds(int i) {
        return world.hasOne(i) ? world.fittingOneKinds(i) : bad();
    }

    public int ask(int i) {
        if (!world.hasOne(i)) {
            return bad();
        }
        int fitting = world.fittingOneKinds(i);
        if (fitting == 0) {
            return NONE;
        }
        int best = NONE;
        int least = KINDS + 1;
        for (int a = 0; a <= MOST_AGE; a++) {
            answers.fillByOneKind(fitting, world.strength[i], a);
            int alike = answers.mostAlike();
            if (alike < least) {
                least = alike;
                best = a;
            }
        }
        return best;
    }

    public int tries(int a, int b, int t) {
        if (!world.hasOne(a) || !world.hasOne(b) || a == b || !world.hasThing(t)) {
            return bad();
        }
        int liftA = world.liftOf(a, 0);
        int liftB = world.liftOf(b, 0);
        int weight = world.weightOf(t, 0);
        int bits = 0;
        for (int pair = 0; pair < 4; pair++) {
            boolean triesA = (pair & 1) != 0;
            boolean triesB = (pair & 2) != 0;
            if (isContent(triesA, triesB, liftA, liftB, weight)
                    && isContent(triesB, triesA, liftB, liftA, weight)) {
                bits |= 1 << pair;
            }
        }
        return bits;
    }

    public int shout(int i, int n, int c) {
        if (!world.hasOne(i) || !isWithin(n, 0, MOST_SHOUTS) || !isWithin(c, 0, TENTHS)) {
            return bad();
        }
        if (!world.now.isHere(i)) {
            return no();
        }
        long chances = 1;
        long ways = 1;
        for (int k = 0; k < n; k++) {
            chances *= world.tenthsHeld(i, k, c);
            ways *= TENTHS;
        }
        setFraction(chances, ways);
        return 1;
    }

    public int centuries(int seed, int n) {
        if (!isWithin(seed, 0, MOST_SEED) || !isWithin(n, 0, FARTHEST)) {
            return bad();
        }
        ahead.copyFrom(world.now);
        long x = seed;
        for (int k = 0; k < n; k++) {
            x = (x * 1103515245L + 12345L) % 2147483648L;
            int i = (int) (x / 65536L % 7L);
            int t = (int) (x / 1048576L % 7L);
            world.giveIfFree(ahead, i, t);
            world.passYears(ahead, 1, BEYOND);
        }
        return ahead.countHere();
    }

    // ---- what there is

    public long part(int what) {
        if (!isWithin(what, 0, 1)) {
            return bad();
        }
        return what == 0 ? above : below;
    }

    public int image(int i) {
        if (!isWithin(i, 0, IMAGES - 1)) {
            return bad();
        }
        images[i].copyFrom(world);
        keptImages |= 1 << i;
        return 1;
    }

    public int from(int i) {
        if (!isWithin(i, 0, IMAGES - 1)) {
            return bad();
        }
        if ((keptImages >> i & 1) == 0) {
            return no();
        }
        world.copyFrom(images[i]);
        return 1;
    }

    public int status(int what) {
        switch (what) {
            case 0:
                return refusedBad;
            case 1:
                return refusedNo;
            case 2:
                return refusedFull;
            default:
                bad();
                return NONE;
        }
    }

    public int count(int what) {
        return isWithin(what, 0, COUNTS - 1) ? howMany(what) : bad();
    }

    public long digest() {
        long h = 1759;
        for (int what = 0; what < COUNTS; what++) {
            h = 31 * h + howMany(what);
        }
        h = world.mixInto(h);
        h = 31 * h + above;
        return 31 * h + below;
    }

    private int howMany(int what) {
        switch (what) {
            case 0:
                return world.ones;
            case 1:
                return world.now.countHere();
            case 2:
                return world.things;
            case 3:
                return world.countOwned();
            case 4:
                return world.now.year;
            case 5:
                return world.seenOnes.size;
            case 6:
                return world.notes.size;
            case 7:
                return world.marks.size;
            case 8:
                return world.pasts;
            default:
                return reader.length;
        }
    }

    private int bad() {
        refusedBad++;
        return BAD;
    }

    private int no() {
        refusedNo++;
        return NO;
    }

    private int full() {
        refusedFull++;
        return FULL;
    }

    private void setFraction(long chances, long ways) {
        long common = commonDivisor(chances, ways);
        if (common > 0) {
            above = chances / common;
            below = ways / common;
        }
    }

    private static long commonDivisor(long a, long b) {
        long greater = a;
        long lesser = b;
        // Euclid's way is at its end well within a hundred steps for any two longs.
        for (int k = 0; k < 100 && lesser != 0; k++) {
            long rest = greater % lesser;
            greater = lesser;
            lesser = rest;
        }
        return greater;
    }

    private static int leastBit(int bits) {
        for (int k = 0; k <= MOST_STRENGTH; k++) {
            if ((bits >> k & 1) == 1) {
                return k;
            }
        }
        return NONE;
    }

    private static int greatestBit(int bits) {
        for (int k = MOST_STRENGTH; k >= 0; k--) {
            if ((bits >> k & 1) == 1) {
                return k;
            }
        }
        return NONE;
    }

    private static boolean isWithin(int n, int least, int most) {
        return n >= least && n <= most;
    }

    private static boolean isContent(boolean tries, boolean otherTries, int lift, int otherLift,
            int weight) {
        return gain(tries, otherTries, lift, otherLift, weight)
                >= gain(!tries, otherTries, lift, otherLift, weight);
    }

    private static int gain(boolean tries, boolean otherTries, int lift, int otherLift,
            int weight) {
        if (tries && otherTries) {
            return lift + otherLift >= weight ? 3 : -3;
        }
        if (tries) {
            return lift >= weight ? 5 : -2;
        }
        return otherTries && otherLift < weight ? 1 : 0;
    }

    /** What the KINDS say, each by the one that it stands under. */
    private static final class Scales {
        private static int thingWeighs(int kind, int w, int y) {
            switch (kind) {
                case 1:
                    return bell(w);
                case 2:
                    return trunk(w);
                case 3:
                    return bell(w) + Math.min(20, y / 10);
                case 4:
                    return trunk(w) + (y % 2 == 1 ? 9 : 0);
                case 5:
                    return 2 * trunk(w) - 1;
                default:
                    return w;
            }
        }

        private static int bell(int w) {
            return w + 6;
        }

        private static int trunk(int w) {
            return (w + 1) / 2;
        }

        private static int oneLifts(int kind, int s, int a) {
            int plain = 2 * s + Math.min(a, 30) / 3;
            switch (kind) {
                case 1:
                    return smith(plain);
                case 2:
                    return weak(plain);
                case 3:
                    return a < 18 ? Math.max(0, plain - 6) : plain;
                case 4:
                    return a % 10 == 5 ? 2 * smith(plain) : smith(plain);
                case 5:
                    return Math.max(0, weak(plain) - Math.max(0, a - 60) / 5);
                default:
                    return plain;
            }
        }

        private static int smith(int plain) {
            return plain + 8;
        }

        private static int weak(int plain) {
            return plain / 2;
        }
    }

    /** What YEARS, giving and leaving change, and UNDO brings back. */
    private static final class Moment {
        private final int[] age = new int[MOST_PEOPLE];
        private final int[] owned = new int[MOST_PEOPLE];
        private int here;
        private int year;

        private Moment() {
            for (int i = 0; i < MOST_PEOPLE; i++) {
                owned[i] = NONE;
            }
        }

        private void copyFrom(Moment other) {
            for (int i = 0; i < MOST_PEOPLE; i++) {
                age[i] = other.age[i];
                owned[i] = other.owned[i];
            }
            here = other.here;
            year = other.year;
        }

        private boolean isHere(int i) {
            return (here >> i & 1) == 1;
        }

        private int countHere() {
            return Integer.bitCount(here);
        }

        private void lose(int i) {
            here &= ~(1 << i);
            owned[i] = NONE;
        }

        private void growOlder(int i) {
            age[i] = Math.min(MOST_AGE, age[i] + 1);
        }
    }

    /** Rows of four numbers, as they come: SEEN ones, NOTES, MARKS. */
    private static final class Rows {
        private static final int COLUMNS = 4;

        private final int most;
        private final int[] cells;
        private int size;

        private Rows(int most) {
            this.most = most;
            this.cells = new int[COLUMNS * most];
        }

        private boolean isFull() {
            return size >= most;
        }

        private int add(int first, int second, int third, int fourth) {
            int at = COLUMNS * size;
            cells[at] = first;
            cells[at + 1] = second;
            cells[at + 2] = third;
            cells[at + 3] = fourth;
            size++;
            return size;
        }

        private int cell(int row, int column) {
            return cells[COLUMNS * row + column];
        }

        private int drop() {
            int were = size;
            size = 0;
            return were;
        }

        private void copyFrom(Rows other) {
            size = other.size;
            for (int k = 0; k < COLUMNS * size; k++) {
                cells[k] = other.cells[k];
            }
        }

        private long mixInto(long before) {
            long h = before;
            for (int k = 0; k < COLUMNS * size; k++) {
                h = 31 * h + cells[k];
            }
            return h;
        }
    }

    /** All that an IMAGE keeps. */
    private static final class World {
        private int things;
        private final int[] thingKind = new int[MOST_THINGS];
        private final int[] thingWeight = new int[MOST_THINGS];
        private int ones;
        private final int[] kind = new int[MOST_PEOPLE];
        private final int[] strength = new int[MOST_PEOPLE];
        private final Moment now = new Moment();
        private final Moment[] past = new Moment[MOST_UNDONE];
        private int pasts;
        private final Rows seenOnes = new Rows(MOST_SEEN);
        private final Rows notes = new Rows(MOST_NOTES);
        private final Rows marks = new Rows(MOST_MARKS);

        private World() {
            for (int k = 0; k < MOST_UNDONE; k++) {
                past[k] = new Moment();
            }
        }

        private void startAnew() {
            things = 0;
            ones = 0;
            now.here = 0;
            now.year = 0;
            pasts = 0;
            seenOnes.drop();
            notes.drop();
            marks.drop();
        }

        private void copyFrom(World other) {
            things = other.things;
            ones = other.ones;
            for (int t = 0; t < MOST_THINGS; t++) {
                thingKind[t] = other.thingKind[t];
                thingWeight[t] = other.thingWeight[t];
            }
            for (int i = 0; i < MOST_PEOPLE; i++) {
                kind[i] = other.kind[i];
                strength[i] = other.strength[i];
            }
            now.copyFrom(other.now);
            pasts = other.pasts;
            for (int k = 0; k < pasts; k++) {
                past[k].copyFrom(other.past[k]);
            }
            seenOnes.copyFrom(other.seenOnes);
            notes.copyFrom(other.notes);
            marks.copyFrom(other.marks);
        }

        private boolean hasThing(int t) {
            return t >= 0 && t < things;
        }

        private boolean hasOne(int i) {
            return i >= 0 && i < ones;
        }

        private int addThing(int itsKind, int weight) {
            int t = things;
            thingKind[t] = itsKind;
            thingWeight[t] = weight;
            things++;
            pasts = 0;
            return t;
        }

        private int addOne(int hisKind, int hisStrength, int hisAge) {
            int i = ones;
            kind[i] = hisKind;
            strength[i] = hisStrength;
            now.age[i] = hisAge;
            now.owned[i] = NONE;
            now.here |= 1 << i;
            ones++;
            pasts = 0;
            return i;
        }

        /** The oldest MOMENT gives its place to the new one when there are as many as may be. */
        private void remember() {
            if (pasts >= MOST_UNDONE) {
                Moment oldest = past[0];
                for (int k = 1; k < MOST_UNDONE; k++) {
                    past[k - 1] = past[k];
                }
                past[MOST_UNDONE - 1] = oldest;
                pasts = MOST_UNDONE - 1;
            }
            past[pasts].copyFrom(now);
            pasts++;
        }

        private void bringBack() {
            pasts--;
            now.copyFrom(past[pasts]);
        }

        private boolean mayGet(int i) {
            return now.isHere(i) && now.owned[i] == NONE;
        }

        private int ownerOf(int t) {
            return ownerIn(now, t);
        }

        private int ownerIn(Moment moment, int t) {
            for (int i = 0; i < ones; i++) {
                if (moment.owned[i] == t) {
                    return i;
                }
            }
            return NONE;
        }

        private int countOwned() {
            int owned = 0;
            for (int i = 0; i < ones; i++) {
                if (now.owned[i] != NONE) {
                    owned++;
                }
            }
            return owned;
        }

        private int factOfOne(int i, int what) {
            switch (what) {
                case 0:
                    return kind[i];
                case 1:
                    return strength[i];
                case 2:
                    return now.age[i];
                case 3:
                    return now.owned[i];
                default:
                    return now.isHere(i) ? 1 : 0;
            }
        }

        private int weightOf(int t, int m) {
            return Scales.thingWeighs(thingKind[t], thingWeight[t], now.year + m);
        }

        private int liftOf(int i, int m) {
            int age = now.isHere(i) ? Math.min(MOST_AGE, now.age[i] + m) : now.age[i];
            return Scales.oneLifts(kind[i], strength[i], age);
        }

        /** For how many YEARS, of so many at most, a THING would hold one who is HERE. */
        private int holdsFor(int t, int i, int most) {
            for (int k = 0; k < most; k++) {
                if (weightOf(t, k) <= liftOf(i, k)) {
                    return k;
                }
            }
            return most;
        }

        private int thingsHolding(int i, int m) {
            int bits = 0;
            if (now.isHere(i)) {
                for (int t = 0; t < things; t++) {
                    if (holdsFor(t, i, m) >= m) {
                        bits |= 1 << t;
                    }
                }
            }
            return bits;
        }

        private int toldWeight(int set) {
            int weight = 0;
            for (int t = 0; t < things; t++) {
                if ((set >> t & 1) == 1) {
                    weight += thingWeight[t];
                }
            }
            return weight;
        }

        private boolean liftByTwo(int t, int i, int j) {
            if (!now.isHere(i) || !now.isHere(j)) {
                return false;
            }
            int weight = weightOf(t, 0);
            int first = liftOf(i, 0);
            int second = liftOf(j, 0);
            return first < weight && second < weight && first + second >= weight;
        }

        private boolean isHeldIn(Moment moment, int i) {
            int t = moment.owned[i];
            return hasThing(t)
                    && Scales.thingWeighs(thingKind[t], thingWeight[t], moment.year)
                    > Scales.oneLifts(kind[i], strength[i], moment.age[i]);
        }

        private void passYears(Moment moment, int n, int lastYear) {
            for (int k = 0; k < n && moment.year < lastYear; k++) {
                for (int i = 0; i < ones; i++) {
                    if (!moment.isHere(i)) {
                        continue;
                    }
                    if (isHeldIn(moment, i)) {
                        moment.growOlder(i);
                    } else {
                        moment.lose(i);
                    }
                }
                moment.year++;
            }
        }

        private void giveIfFree(Moment moment, int i, int t) {
            if (hasOne(i) && moment.isHere(i) && moment.owned[i] == NONE && hasThing(t)
                    && ownerIn(moment, t) == NONE) {
                moment.owned[i] = t;
            }
        }

        /** In how many of ten cases what he OWNS holds him in the k-th YEAR from now. */
        private int tenthsHeld(int i, int k, int c) {
            int t = now.owned[i];
            if (!hasThing(t)) {
                return 0;
            }
            int weight = weightOf(t, k);
            int lift = liftOf(i, k);
            return (weight > lift ? TENTHS - c : 0) + (weight > lift + MORE_BY_SHOUT ? c : 0);
        }

        private int fittingStrengths(int i) {
            int bits = 0;
            for (int s = 1; s <= MOST_STRENGTH; s++) {
                if (fitsSeen(i, s)) {
                    bits |= 1 << s;
                }
            }
            return bits;
        }

        private boolean fitsSeen(int i, int s) {
            for (int row = 0; row < seenOnes.size; row++) {
                if (seenOnes.cell(row, 0) == i) {
                    int lift = Scales.oneLifts(kind[i], s, seenOnes.cell(row, 1));
                    int lifted = lift >= seenOnes.cell(row, 2) ? 1 : 0;
                    if (lifted != seenOnes.cell(row, 3)) {
                        return false;
                    }
                }
            }
            return true;
        }

        private int fittingThingKinds(int t) {
            int bits = 0;
            for (int k = 0; k < KINDS; k++) {
                if (fitsNotes(t, k)) {
                    bits |= 1 << k;
                }
            }
            return bits;
        }

        private boolean fitsNotes(int t, int itsKind) {
            for (int row = 0; row < notes.size; row++) {
                if (notes.cell(row, 0) == t && notes.cell(row, 3)
                        != Scales.thingWeighs(itsKind, notes.cell(row, 1), notes.cell(row, 2))) {
                    return false;
                }
            }
            return true;
        }

        private int fittingOneKinds(int i) {
            int bits = 0;
            for (int k = 0; k < KINDS; k++) {
                if (fitsMarks(i, k)) {
                    bits |= 1 << k;
                }
            }
            return bits;
        }

        private boolean fitsMarks(int i, int hisKind) {
            for (int row = 0; row < marks.size; row++) {
                if (marks.cell(row, 0) == i && marks.cell(row, 3)
                        != Scales.oneLifts(hisKind, marks.cell(row, 1), marks.cell(row, 2))) {
                    return false;
                }
            }
            return true;
        }

        private long mixInto(long before) {
            long h = before;
            for (int t = 0; t < things; t++) {
                h = 31 * h + thingKind[t];
                h = 31 * h + thingWeight[t];
            }
            for (int i = 0; i < ones; i++) {
                for (int what = 0; what <= 4; what++) {
                    h = 31 * h + factOfOne(i, what);
                }
            }
            h = seenOnes.mixInto(h);
            h = notes.mixInto(h);
            return marks.mixInto(h);
        }
    }

    /** How many of those from each one on can be HELD at most by each set of THINGS. */
    private static final class Matching {
        private static final int SETS = 128;

        private final int[] holding = new int[MOST_PEOPLE];
        private final int[] table = new int[MOST_PEOPLE * SETS];
        private int ones;

        private void fill(World world, int m) {
            ones = world.ones;
            for (int i = ones - 1; i >= 0; i--) {
                holding[i] = world.thingsHolding(i, m);
                for (int set = 0; set < 1 << world.things; set++) {
                    table[i * SETS + set] = best(i, set);
                }
            }
        }

        /** One who is given a THING is one more only if the others lose nothing by it. */
        private int best(int i, int set) {
            int without = most(i + 1, set);
            int free = holding[i] & set;
            for (int t = 0; t < MOST_THINGS; t++) {
                if ((free >> t & 1) == 1 && most(i + 1, set & ~(1 << t)) == without) {
                    return without + 1;
                }
            }
            return without;
        }

        private int most(int i, int set) {
            return i < ones ? table[i * SETS + set] : 0;
        }

        private int firstThingOf(int wanted, int all) {
            int set = all;
            int thing = NONE;
            for (int i = 0; i <= wanted; i++) {
                thing = firstThing(i, set);
                if (thing != NONE) {
                    set &= ~(1 << thing);
                }
            }
            return thing;
        }

        private int firstThing(int i, int set) {
            int wanted = most(i, set);
            if (most(i + 1, set) == wanted) {
                return NONE;
            }
            int free = holding[i] & set;
            for (int t = 0; t < MOST_THINGS; t++) {
                if ((free >> t & 1) == 1 && most(i + 1, set & ~(1 << t)) + 1 == wanted) {
                    return t;
                }
            }
            return NONE;
        }
    }

    /** What each of some STRENGTHS or KINDS would answer to one trial. */
    private static final class Answers {
        private final int[] row = new int[MOST_STRENGTH];
        private int size;

        private void fillByStrength(int kind, int strengths, int a) {
            size = 0;
            for (int s = 1; s <= MOST_STRENGTH; s++) {
                if ((strengths >> s & 1) == 1) {
                    put(Scales.oneLifts(kind, s, a));
                }
            }
        }

        private void fillByThingKind(int fitting, int w, int y) {
            size = 0;
            for (int k = 0; k < KINDS; k++) {
                if ((fitting >> k & 1) == 1) {
                    put(Scales.thingWeighs(k, w, y));
                }
            }
        }

        private void fillByOneKind(int fitting, int s, int a) {
            size = 0;
            for (int k = 0; k < KINDS; k++) {
                if ((fitting >> k & 1) == 1) {
                    put(Scales.oneLifts(k, s, a));
                }
            }
        }

        private void put(int answer) {
            if (size < MOST_STRENGTH) {
                row[size] = answer;
                size++;
            }
        }

        private int greaterPart(int x) {
            int lifting = 0;
            for (int k = 0; k < size; k++) {
                if (row[k] >= x) {
                    lifting++;
                }
            }
            return Math.max(lifting, size - lifting);
        }

        private int mostAlike() {
            int most = 0;
            for (int k = 0; k < size; k++) {
                int alike = 0;
                for (int j = 0; j < size; j++) {
                    if (row[j] == row[k]) {
                        alike++;
                    }
                }
                most = Math.max(most, alike);
            }
            return most;
        }
    }

    /** THE TEXT, and the PEOPLE that it tells. */
    private static final class Reader {
        private static final int END = 0;
        private static final int WORD = 1;
        private static final int NUMBER = 2;
        private static final int STOP = 3;
        private static final int WRONG = 4;

        private final int[] text = new int[MOST_TEXT];
        private int length;
        private int place;
        private int token;
        private int start;
        private int number;
        private final World draft = new World();

        private int append(int c) {
            text[length] = c;
            length++;
            return length;
        }

        /** How many ITEMS there are, or the FAULT as the document has it answered. */
        private int readItems() {
            place = 0;
            draft.startAnew();
            for (int items = 0; items <= MOST_TEXT; items++) {
                nextToken();
                if (token == END && items > 0) {
                    return items;
                }
                if (!takeItem(items == 0) || !takeStop()) {
                    break;
                }
            }
            return FAULT - start;
        }

        private boolean takeItem(boolean first) {
            if (first) {
                return isWord("people");
            }
            if (isWord("thing")) {
                return takeThing();
            }
            if (isWord("one")) {
                return takeOne();
            }
            if (isWord("own")) {
                return takeOwn();
            }
            if (isWord("leave")) {
                return takeLeave();
            }
            return isWord("years") && takeYears();
        }

        private boolean takeThing() {
            if (draft.things >= MOST_THINGS || !takeNumber(0, KINDS - 1)) {
                return false;
            }
            int kind = number;
            if (!takeNumber(1, MOST_WEIGHT)) {
                return false;
            }
            draft.addThing(kind, number);
            return true;
        }

        private boolean takeOne() {
            if (draft.ones >= MOST_PEOPLE || !takeNumber(0, KINDS - 1)) {
                return false;
            }
            int kind = number;
            if (!takeNumber(1, MOST_STRENGTH)) {
                return false;
            }
            int strength = number;
            if (!takeNumber(0, MOST_AGE)) {
                return false;
            }
            draft.addOne(kind, strength, number);
            return true;
        }

        private boolean takeOwn() {
            if (!takeNumber(0, draft.ones - 1) || !draft.mayGet(number)) {
                return false;
            }
            int i = number;
            if (!takeNumber(0, draft.things - 1) || draft.ownerOf(number) != NONE) {
                return false;
            }
            draft.now.owned[i] = number;
            return true;
        }

        private boolean takeLeave() {
            if (!takeNumber(0, draft.ones - 1) || draft.now.owned[number] == NONE) {
                return false;
            }
            draft.now.owned[number] = NONE;
            return true;
        }

        private boolean takeYears() {
            if (!takeNumber(1, MOST_NUMBER)) {
                return false;
            }
            draft.passYears(draft.now, number, LAST_YEAR);
            return true;
        }

        private boolean takeNumber(int least, int most) {
            nextToken();
            return token == NUMBER && isWithin(number, least, most);
        }

        private boolean takeStop() {
            nextToken();
            return token == STOP;
        }

        private boolean isWord(String word) {
            if (token != WORD || place - start != word.length()) {
                return false;
            }
            for (int k = 0; k < word.length(); k++) {
                if (text[start + k] != word.charAt(k)) {
                    return false;
                }
            }
            return true;
        }

        private void nextToken() {
            while (place < length && text[place] == ' ') {
                place++;
            }
            start = place;
            if (place >= length) {
                token = END;
            } else if (isWithin(text[place], 'a', 'z')) {
                passRun('a', 'z');
                token = WORD;
            } else if (isWithin(text[place], '0', '9')) {
                passRun('0', '9');
                token = place - start <= 2 ? NUMBER : WRONG;
                number = text[place - 1] - '0' + (place - start == 2 ? 10 * (text[start] - '0') : 0);
            } else {
                token = text[place] == ';' ? STOP : WRONG;
                place++;
            }
        }

        private void passRun(int least, int most) {
            while (place < length && isWithin(text[place], least, most)) {
                place++;
            }
        }
    }
}
