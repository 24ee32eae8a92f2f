/** A bench of distances that come from cuts. The words in capitals are those of the document. */
public final class CutDistances {
    public static final int BAD = -1, NOT = -2, FULL = -3, STATE = -5, SPENT = -7;
    public static final long NO = Long.MIN_VALUE;

    private static final int NOTHING_THERE = -11, OTHER_KIND = -12, NO_SUCH_PLACE = -13, SIZE_BELOW_0 = -14;
    private static final int HOLDS_NOTHING = 0, HOLDS_DISTANCES = 1, HOLDS_WALL = 2, HOLDS_ROW = 3;
    private static final int LEAST_POINTS = 2, MOST_POINTS = 6, MOST_PAIRS = 15, MOST_CUTS = 31;
    private static final int MOST_DISTANCE = 999, MOST_PLACE = 99, MOST_WEIGHT = 99, MOST_STRETCH = 99;
    private static final int MOST_WIDTH = 3, MOST_TRIES = 9999, MOST_DEEDS = 8;
    /** No fewer than there can be: five numbers of a WALL, each one of seven, leave no choice for the sixth. */
    private static final int MOST_WALLS = 7 * 7 * 7 * 7 * 7;
    private static final int MOST_TAPE = 80, MOST_SPELLED = 61, HOLDERS = 6, MOST_ROW = 20;
    private static final int FAULT_BASE = -1000;

    private final Table now = new Table();
    private final Table next = new Table();
    private final Places places = new Places();
    private final Deeds deeds = new Deeds();
    private final Table imageTable = new Table();
    private final Places imagePlaces = new Places();
    private boolean imageKept = false;
    private final Holder[] holders = new Holder[HOLDERS];
    private final Tape tape = new Tape();
    private final Speller speller = new Speller();
    private final WallWalk walk = new WallWalk();
    private final SumSearch search = new SumSearch();
    private final RankCounter ranks = new RankCounter();

    public CutDistances() {
        for (int h = 0; h < HOLDERS; h++) {
            holders[h] = new Holder();
        }
    }

    // ---- distances

    public int points(int n) {
        if (n < LEAST_POINTS || n > MOST_POINTS) {
            return BAD;
        }
        int before = now.n;
        now.clearTo(n);
        places.clearFrom(0);
        deeds.forget();
        return before;
    }

    public int put(int i, int j, int v) {
        if (!now.hasPair(i, j) || v < 0 || v > MOST_DISTANCE) {
            return BAD;
        }
        int before = now.between(i, j);
        next.copyFrom(now);
        next.far[next.pairOf(i, j)] = v;
        doDeed();
        return before;
    }

    public int at(int i, int j) {
        return now.hasPair(i, j) ? now.between(i, j) : BAD;
    }

    public int cut(int s, int w) {
        if (!now.hasCut(s) || w < -MOST_WEIGHT || w > MOST_WEIGHT) {
            return BAD;
        }
        next.copyFrom(now);
        int apart = now.pairsApart(s);
        for (int p = 0; p < now.pairCount(); p++) {
            next.far[p] += (apart >> p & 1) * w;
        }
        return doDeedInBounds();
    }

    public int paths() {
        next.copyFrom(now);
        next.shorten();
        return doDeed();
    }

    public int place(int point, int x, int y) {
        if (!now.hasPoint(point) || x < 0 || x > MOST_PLACE || y < 0 || y > MOST_PLACE) {
            return BAD;
        }
        int before = 100 * places.x[point] + places.y[point];
        places.x[point] = x;
        places.y[point] = y;
        return before;
    }

    public int town() {
        next.copyFrom(now);
        for (int i = 0; i < now.n; i++) {
            for (int j = i + 1; j < now.n; j++) {
                next.far[next.pairOf(i, j)] = places.townDistance(i, j);
            }
        }
        return doDeed();
    }

    public int stretch(int k) {
        if (k < 0 || k > MOST_STRETCH) {
            return BAD;
        }
        next.copyFrom(now);
        for (int p = 0; p < now.pairCount(); p++) {
            next.far[p] *= k;
        }
        return doDeedInBounds();
    }

    public int back() {
        if (deeds.size == 0) {
            return STATE;
        }
        deeds.takeBack(now);
        places.clearFrom(now.n);
        return deeds.size;
    }

    /** What stands in next comes true, as a DEED if anything is otherwise: how many DISTANCES are (with the same N). */
    private int doDeed() {
        int otherwise = now.unlike(next);
        if (otherwise > 0 || now.n != next.n) {
            deeds.keep(now);
            now.copyFrom(next);
            places.clearFrom(now.n);
        }
        return otherwise;
    }

    private int doDeedInBounds() {
        if (!next.inBounds()) {
            return STATE;
        }
        doDeed();
        return now.total();
    }

    // ---- triangles, rounds

    public int triangles(int what) {
        if (what != 0 && what != 1) {
            return BAD;
        }
        int broken = 0;
        for (int i = 0; i < now.n; i++) {
            for (int j = 0; j < now.n; j++) {
                for (int k = j + 1; k < now.n; k++) {
                    if (isBrokenTriangle(i, j, k)) {
                        if (what == 1) {
                            return told(i, j, k);
                        }
                        broken++;
                    }
                }
            }
        }
        return what == 1 ? NOT : broken;
    }

    public int rounds(int what) {
        if (what != 0 && what != 1) {
            return BAD;
        }
        int odd = 0;
        for (int i = 0; i < now.n; i++) {
            for (int j = i + 1; j < now.n; j++) {
                for (int k = j + 1; k < now.n; k++) {
                    if (isOddRound(i, j, k)) {
                        if (what == 1) {
                            return told(i, j, k);
                        }
                        odd++;
                    }
                }
            }
        }
        return what == 1 ? NOT : odd;
    }

    private boolean isBrokenTriangle(int i, int j, int k) {
        return i != j && i != k && now.between(j, k) > now.between(i, j) + now.between(i, k);
    }

    private boolean isOddRound(int i, int j, int k) {
        return (now.between(i, j) + now.between(i, k) + now.between(j, k)) % 2 == 1;
    }

    private static int told(int i, int j, int k) {
        return 100 * i + 10 * j + k;
    }

    // ---- walls

    public int walls(int m, int what) {
        if (!isWidth(m) || what < 0 || what > 4) {
            return BAD;
        }
        int wallCount = 0, broken = 0, tight = 0, firstBroken = NOT, greatest = 0, greatestValue = 0;
        walk.start(now, m);
        for (int k = 0; k < MOST_WALLS && walk.standsOnWall; k++) {
            int v = walk.wallValue();
            if (v > 0) {
                firstBroken = broken == 0 ? wallCount : firstBroken;
                broken++;
            } else if (v == 0) {
                tight++;
            }
            if (wallCount == 0 || v > greatestValue) {
                greatest = wallCount;
                greatestValue = v;
            }
            wallCount++;
            walk.goOn();
        }
        switch (what) {
            case 0: return wallCount;
            case 1: return broken;
            case 2: return tight;
            case 3: return firstBroken;
            default: return greatest;
        }
    }

    public int wall(int m, int k, int i) {
        if (!isWidth(m) || !now.hasPoint(i) || k < 0) {
            return BAD;
        }
        walk.start(now, m);
        walk.goOnTimes(k);
        return walk.standsOnWall ? walk.b[i] + 3 : NOT;
    }

    public int holdWall(int h, int m, int k) {
        if (!isHolder(h) || !isWidth(m) || k < 0) {
            return BAD;
        }
        walk.start(now, m);
        walk.goOnTimes(k);
        if (!walk.standsOnWall) {
            return NOT;
        }
        holders[h].take(HOLDS_WALL, now.n, now.n, walk.b);
        return holders[h].width();
    }

    public int wallOf(int h, int from) {
        if (!isHolder(h)) {
            return BAD;
        }
        int refusal = refusalOfKind(from, HOLDS_ROW);
        if (refusal != 0) {
            return refusal;
        }
        if (!holders[from].tellsWall(now.n)) {
            return STATE;
        }
        holders[h].take(HOLDS_WALL, now.n, now.n, holders[from].numbers);
        return holders[h].width();
    }

    public long value(int h) {
        if (refusalOfWall(h) != 0) {
            return NO;
        }
        int[] b = holders[h].numbers;
        int together = 0;
        for (int i = 0; i < now.n; i++) {
            for (int j = i + 1; j < now.n; j++) {
                together += b[i] * b[j] * now.between(i, j);
            }
        }
        return together;
    }

    public int roots(int h, int what) {
        if (what < 0 || what > 2) {
            return BAD;
        }
        int refusal = refusalOfWall(h);
        if (refusal != 0) {
            return refusal;
        }
        if (what == 0) {
            return rootCount(holders[h]);
        }
        int rank = rootRank(holders[h]);
        if (what == 1) {
            return rank;
        }
        return rank == now.pairCount() - 1 ? 1 : 0;
    }

    public int root(int h, int k) {
        if (!isHolder(h) || k < 0) {
            return BAD;
        }
        int refusal = refusalOfWall(h);
        if (refusal != 0) {
            return refusal;
        }
        int ahead = 0;
        for (int s = 1; s <= now.lastCut(); s++) {
            if (isRoot(holders[h], s)) {
                if (ahead == k) {
                    return s;
                }
                ahead++;
            }
        }
        return NOT;
    }

    public int switched(int h, int s) {
        if (!isHolder(h) || !now.hasCut(s)) {
            return BAD;
        }
        int refusal = refusalOfWall(h);
        if (refusal != 0) {
            return refusal;
        }
        if (holders[h].togetherInCut(s) != 0) {
            return STATE;
        }
        return holders[h].turnSigns(s) ? 1 : 0;
    }

    private int rootCount(Holder wall) {
        int found = 0;
        for (int s = 1; s <= now.lastCut(); s++) {
            found += isRoot(wall, s) ? 1 : 0;
        }
        return found;
    }

    private int rootRank(Holder wall) {
        ranks.start(now.pairCount());
        for (int s = 1; s <= now.lastCut(); s++) {
            if (isRoot(wall, s)) {
                ranks.addBits(now.pairsApart(s));
            }
        }
        return ranks.rank;
    }

    /** All b together are 1, so the VALUE for a CUT is what is in it times what is not: t times (1 less t). */
    private static boolean isRoot(Holder wall, int s) {
        int t = wall.togetherInCut(s);
        return t == 0 || t == 1;
    }

    private static boolean isWidth(int m) {
        return m >= 1 && m <= MOST_WIDTH;
    }

    // ---- sums, gauges

    public int sum(int tries, int s) {
        if (tries < 1 || tries > MOST_TRIES || s != -1 && s != 0 && !now.hasCut(s)) {
            return BAD;
        }
        int made = search.seek(now, tries);
        if (made < 0 || s == -1) {
            return made;
        }
        return s == 0 ? search.together() : search.numbers[s];
    }

    public long gauge(int kind, int set) {
        if (kind < 0 || kind > 4 || set < 0 || set >= 1 << now.n) {
            return NO;
        }
        switch (kind) {
            case 0: return within(set);
            case 1: return doubled(set);
            case 2: return across(set) - doubled(set);
            case 3: return longest(set);
            default: return within(set) - longest(set);
        }
    }

    private int within(int points) {
        int together = 0;
        for (int i = 0; i < now.n; i++) {
            for (int j = i + 1; j < now.n; j++) {
                together += (points >> i & points >> j & 1) * now.between(i, j);
            }
        }
        return together;
    }

    private int doubled(int points) {
        return 2 * within(points);
    }

    private int across(int points) {
        int together = 0;
        for (int i = 0; i < now.n; i++) {
            for (int j = i + 1; j < now.n; j++) {
                together += ((points >> i ^ points >> j) & 1) * now.between(i, j);
            }
        }
        return together;
    }

    private int longest(int points) {
        int most = 0;
        for (int i = 0; i < now.n; i++) {
            for (int j = i + 1; j < now.n; j++) {
                most = Math.max(most, (points >> i & points >> j & 1) * now.between(i, j));
            }
        }
        return most;
    }

    // ---- texts

    public int feed(int v, int n) {
        if (n < 1 || n > 4) {
            return BAD;
        }
        if (tape.size + n > MOST_TAPE) {
            return FULL;
        }
        for (int k = n - 1; k >= 0; k--) {
            tape.append(v >> 8 * k & 255);
        }
        return tape.size;
    }

    public int wipe() {
        int before = tape.size;
        tape.size = 0;
        return before;
    }

    public int read() {
        int fault = tape.parseInto(next);
        tape.size = 0;
        if (fault >= 0) {
            return FAULT_BASE - fault;
        }
        doDeed();
        return now.n;
    }

    public int spell(int i) {
        if (i < -1) {
            return BAD;
        }
        speller.write(now);
        if (i == -1) {
            return speller.size;
        }
        return i < speller.size ? speller.bytes[i] : NOT;
    }

    // ---- holders, the image

    public int hold(int h) {
        if (!isHolder(h)) {
            return BAD;
        }
        holders[h].take(HOLDS_DISTANCES, now.n, now.pairCount(), now.far);
        return now.n;
    }

    public int lose(int h) {
        if (!isHolder(h)) {
            return BAD;
        }
        int before = holders[h].kind;
        holders[h].kind = HOLDS_NOTHING;
        return before;
    }

    public int taken(int h, int kind) {
        if (!isHolder(h) || kind < 0 || kind > 2) {
            return BAD;
        }
        Holder held = holders[h];
        if (held.kind == HOLDS_NOTHING) {
            return NOTHING_THERE;
        }
        if (kind == 0 && held.kind == HOLDS_DISTANCES) {
            return held.together();
        }
        if (kind == 1 && held.kind == HOLDS_WALL) {
            return held.width();
        }
        if (kind == 2 && held.kind != HOLDS_ROW) {
            return held.ofPoints;
        }
        return OTHER_KIND;
    }

    public long number(int h, int i) {
        if (!isHolder(h) || holders[h].kind == HOLDS_NOTHING || !holders[h].hasNumber(i)) {
            return NO;
        }
        return holders[h].numbers[i];
    }

    public int row(int h, int n) {
        if (!isHolder(h) || n > MOST_ROW) {
            return BAD;
        }
        if (n < 0) {
            return SIZE_BELOW_0;
        }
        holders[h].becomeRow(n);
        return n;
    }

    public int set(int h, int i, int v) {
        int refusal = refusalOfKind(h, HOLDS_ROW);
        if (refusal != 0) {
            return refusal;
        }
        if (!holders[h].hasNumber(i)) {
            return NO_SUCH_PLACE;
        }
        holders[h].numbers[i] = v;
        return 1;
    }

    public int judge(int h) {
        int refusal = refusalOfKind(h, HOLDS_ROW);
        if (refusal != 0) {
            return refusal;
        }
        Holder held = holders[h];
        int pairs = now.pairCount();
        for (int p = 0; p < pairs; p++) {
            if (!held.hasNumber(p) || held.numbers[p] != now.far[p]) {
                return p;
            }
        }
        return held.size > pairs ? pairs : NOT;
    }

    public int image() {
        imageTable.copyFrom(now);
        imagePlaces.copyFrom(places);
        imageKept = true;
        return now.n;
    }

    public int undo() {
        if (!imageKept) {
            return STATE;
        }
        now.copyFrom(imageTable);
        places.copyFrom(imagePlaces);
        deeds.forget();
        return now.n;
    }

    public int count(int what) {
        switch (what) {
            case 0: return now.n;
            case 1: return now.pairCount();
            case 2: return now.total();
            case 3: return deeds.size;
            case 4: return tape.size;
            default: return BAD;
        }
    }

    private static boolean isHolder(int h) {
        return h >= 0 && h < HOLDERS;
    }

    /** Why there is nothing of a kind in a HOLDER; 0 if there is. */
    private int refusalOfKind(int h, int kind) {
        if (!isHolder(h)) {
            return BAD;
        }
        if (holders[h].kind == HOLDS_NOTHING) {
            return NOTHING_THERE;
        }
        return holders[h].kind == kind ? 0 : OTHER_KIND;
    }

    /** Why there is no WALL of N numbers in a HOLDER; 0 if there is. */
    private int refusalOfWall(int h) {
        int refusal = refusalOfKind(h, HOLDS_WALL);
        if (refusal != 0) {
            return refusal;
        }
        return holders[h].ofPoints == now.n ? 0 : STATE;
    }

    /** N and the DISTANCES of the PAIRS, in their order; what stands behind the last PAIR means nothing. */
    private static final class Table {
        private int n = 4;
        private final int[] far = new int[MOST_PAIRS];

        private int pairCount() {
            return n * (n - 1) / 2;
        }

        private boolean hasPoint(int i) {
            return i >= 0 && i < n;
        }

        private boolean hasPair(int i, int j) {
            return i >= 0 && i < n && j >= 0 && j < n && i != j;
        }

        private int lastCut() {
            return (1 << (n - 1)) - 1;
        }

        private boolean hasCut(int s) {
            return s >= 1 && s <= lastCut();
        }

        private int pairOf(int i, int j) {
            int low = i < j ? i : j;
            int high = i < j ? j : i;
            return low * (2 * n - low - 1) / 2 + high - low - 1;
        }

        private int between(int i, int j) {
            return hasPair(i, j) ? far[pairOf(i, j)] : 0;
        }

        /** Bit p is 1, if the CUT SEPARATES PAIR p. */
        private int pairsApart(int s) {
            int inCut = s << 1;
            int apart = 0;
            for (int i = 0; i < n; i++) {
                for (int j = i + 1; j < n; j++) {
                    apart |= ((inCut >> i ^ inCut >> j) & 1) << pairOf(i, j);
                }
            }
            return apart;
        }

        private int total() {
            int together = 0;
            for (int p = 0; p < pairCount(); p++) {
                together += far[p];
            }
            return together;
        }

        private boolean inBounds() {
            for (int p = 0; p < pairCount(); p++) {
                if (far[p] < 0 || far[p] > MOST_DISTANCE) {
                    return false;
                }
            }
            return true;
        }

        /** How many DISTANCES are otherwise in the other one; told only of a like N, else 0. */
        private int unlike(Table other) {
            int otherwise = 0;
            for (int p = 0; n == other.n && p < pairCount(); p++) {
                otherwise += far[p] != other.far[p] ? 1 : 0;
            }
            return otherwise;
        }

        /** With each POINT let in as a stop between the others, one behind the other, all rows of POINTS are seen. */
        private void shorten() {
            for (int stop = 0; stop < n; stop++) {
                for (int i = 0; i < n; i++) {
                    for (int j = i + 1; j < n; j++) {
                        int way = between(i, stop) + between(stop, j);
                        far[pairOf(i, j)] = Math.min(between(i, j), way);
                    }
                }
            }
        }

        private void clearTo(int points) {
            n = points;
            for (int p = 0; p < MOST_PAIRS; p++) {
                far[p] = 0;
            }
        }

        private void copyFrom(Table other) {
            n = other.n;
            System.arraycopy(other.far, 0, far, 0, MOST_PAIRS);
        }
    }

    /** The PLACES; those of POINTS that are not there are always 0, so one that comes finds its own at 0, 0. */
    private static final class Places {
        private final int[] x = new int[MOST_POINTS];
        private final int[] y = new int[MOST_POINTS];

        private int townDistance(int i, int j) {
            return Math.abs(x[i] - x[j]) + Math.abs(y[i] - y[j]);
        }

        private void clearFrom(int first) {
            for (int i = first; i < MOST_POINTS; i++) {
                x[i] = 0;
                y[i] = 0;
            }
        }

        private void copyFrom(Places other) {
            System.arraycopy(other.x, 0, x, 0, MOST_POINTS);
            System.arraycopy(other.y, 0, y, 0, MOST_POINTS);
        }
    }

    /** What was ahead of each DEED, in a ring: the ninth takes the place of the oldest. */
    private static final class Deeds {
        private final Table[] ahead = new Table[MOST_DEEDS];
        private int free = 0;
        private int size = 0;

        private Deeds() {
            for (int k = 0; k < MOST_DEEDS; k++) {
                ahead[k] = new Table();
            }
        }

        private void keep(Table table) {
            ahead[free].copyFrom(table);
            free = (free + 1) % MOST_DEEDS;
            size = Math.min(size + 1, MOST_DEEDS);
        }

        private void takeBack(Table into) {
            if (size > 0) {
                free = (free + MOST_DEEDS - 1) % MOST_DEEDS;
                size--;
                into.copyFrom(ahead[free]);
            }
        }

        private void forget() {
            size = 0;
        }
    }

    /** One HOLDER: its room is made once and used for whatever it holds. */
    private static final class Holder {
        private int kind = HOLDS_NOTHING;
        private int ofPoints = 0;
        private int size = 0;
        private final int[] numbers = new int[MOST_ROW];

        private void take(int newKind, int points, int newSize, int[] from) {
            kind = newKind;
            ofPoints = points;
            size = Math.min(newSize, Math.min(from.length, MOST_ROW));
            System.arraycopy(from, 0, numbers, 0, size);
        }

        private void becomeRow(int newSize) {
            kind = HOLDS_ROW;
            ofPoints = 0;
            size = newSize;
            for (int i = 0; i < MOST_ROW; i++) {
                numbers[i] = 0;
            }
        }

        private boolean hasNumber(int i) {
            return i >= 0 && i < size;
        }

        private int together() {
            int all = 0;
            for (int i = 0; i < size; i++) {
                all += numbers[i];
            }
            return all;
        }

        private int width() {
            int most = 0;
            for (int i = 0; i < size; i++) {
                most = Math.max(most, Math.abs(numbers[i]));
            }
            return most;
        }

        /** Each number is looked at before it is added, so that no sum of great ints can come round to 1. */
        private boolean tellsWall(int points) {
            if (size < points) {
                return false;
            }
            int all = 0;
            for (int i = 0; i < points; i++) {
                if (numbers[i] < -MOST_WIDTH || numbers[i] > MOST_WIDTH) {
                    return false;
                }
                all += numbers[i];
            }
            return all == 1;
        }

        private int togetherInCut(int s) {
            int all = 0;
            for (int k = 1; k < size; k++) {
                all += (s >> (k - 1) & 1) * numbers[k];
            }
            return all;
        }

        /** Whether a number is otherwise then. */
        private boolean turnSigns(int s) {
            boolean otherwise = false;
            for (int k = 1; k < size; k++) {
                if ((s >> (k - 1) & 1) == 1 && numbers[k] != 0) {
                    numbers[k] = -numbers[k];
                    otherwise = true;
                }
            }
            return otherwise;
        }
    }

    /**
     * Walks over all WALLS of a WIDTH or less in their order. For each length of the front of the row it keeps what
     * the front leaves for the rest and its part of the VALUE, so that a step works out only what is new in it.
     */
    private static final class WallWalk {
        private final Table table = new Table();
        private boolean standsOnWall = false;
        private int n = 0;
        private int m = 0;
        private final int[] b = new int[MOST_POINTS];
        private final int[] rest = new int[MOST_POINTS + 1];
        private final int[] frontValue = new int[MOST_POINTS + 1];
        private final int[][] pull = new int[MOST_POINTS][MOST_POINTS];

        private void start(Table of, int width) {
            table.copyFrom(of);
            n = of.n;
            m = width;
            rest[0] = 1;
            fillFrom(0);
            standsOnWall = true;
        }

        private int wallValue() {
            return frontValue[n];
        }

        private void goOn() {
            standsOnWall = false;
            for (int p = n - 2; p >= 0 && !standsOnWall; p--) {
                if (b[p] < greatestAt(p)) {
                    b[p]++;
                    carry(p);
                    fillFrom(p + 1);
                    standsOnWall = true;
                }
            }
        }

        private void goOnTimes(int times) {
            for (int k = 0; k < times && k < MOST_WALLS && standsOnWall; k++) {
                goOn();
            }
        }

        private void fillFrom(int first) {
            for (int p = first; p < n; p++) {
                b[p] = leastAt(p);
                carry(p);
            }
        }

        /** Lower, the numbers behind could not come up to what is left for them, each m at most. */
        private int leastAt(int p) {
            return Math.max(-m, rest[p] - m * (n - 1 - p));
        }

        private int greatestAt(int p) {
            return Math.min(m, rest[p] + m * (n - 1 - p));
        }

        /** pull[p][j]: b(i) times DISTANCE of i and j, together for all i ahead of p. */
        private void carry(int p) {
            rest[p + 1] = rest[p] - b[p];
            frontValue[p + 1] = frontValue[p] + b[p] * pull[p][p];
            for (int j = p + 1; j < n; j++) {
                pull[p + 1][j] = pull[p][j] + b[p] * table.between(p, j);
            }
        }
    }

    /** Seeks a SUM; what is LEFT and the numbers of the CUTS stay as the search leaves them. */
    private static final class SumSearch {
        private final int[] numbers = new int[MOST_CUTS + 1];
        private final int[] apart = new int[MOST_CUTS + 1];
        private final int[] left = new int[MOST_PAIRS];
        private int pairs = 0;
        private int lastCut = 0;

        /** How many TRIES found the first SUM; NOT; SPENT. */
        private int seek(Table table, int tries) {
            start(table);
            int s = 1;
            boolean fresh = true;
            for (int made = 1; made <= tries; made++) {
                giveNumber(s, fresh ? leastLeft(s) : numbers[s] - 1);
                if (s < lastCut) {
                    s++;
                    fresh = true;
                } else if (nothingLeft()) {
                    return made;
                } else {
                    s = latestAbove0();
                    fresh = false;
                    if (s == 0) {
                        return NOT;
                    }
                }
            }
            return SPENT;
        }

        private int together() {
            int all = 0;
            for (int s = 1; s <= lastCut; s++) {
                all += numbers[s];
            }
            return all;
        }

        private void start(Table table) {
            pairs = table.pairCount();
            System.arraycopy(table.far, 0, left, 0, pairs);
            lastCut = table.lastCut();
            for (int s = 1; s <= lastCut; s++) {
                numbers[s] = 0;
                apart[s] = table.pairsApart(s);
            }
        }

        private int leastLeft(int s) {
            int least = MOST_DISTANCE;
            for (int p = 0; p < pairs; p++) {
                if ((apart[s] >> p & 1) == 1) {
                    least = Math.min(least, left[p]);
                }
            }
            return least;
        }

        private void giveNumber(int s, int w) {
            int more = w - numbers[s];
            for (int p = 0; p < pairs && more != 0; p++) {
                left[p] -= (apart[s] >> p & 1) * more;
            }
            numbers[s] = w;
        }

        private boolean nothingLeft() {
            for (int p = 0; p < pairs; p++) {
                if (left[p] != 0) {
                    return false;
                }
            }
            return true;
        }

        /** The CUT whose number goes 1 down next: all behind it are at 0 and at their end; 0: none. */
        private int latestAbove0() {
            int s = lastCut;
            while (s > 0 && numbers[s] == 0) {
                s--;
            }
            return s;
        }
    }

    /**
     * Counts independent rows of 0 and 1 by remainders of a prime. That tells the RANK by fractions: a determinant of
     * at most 15 such rows is at most 131072, so none that is not 0 has the remainder 0.
     */
    private static final class RankCounter {
        private static final long PRIME = 1000003L;
        private final long[][] base = new long[MOST_PAIRS][MOST_PAIRS];
        private final long[] fresh = new long[MOST_PAIRS];
        private final boolean[] hasBase = new boolean[MOST_PAIRS];
        private int columns = 0;
        private int rank = 0;

        private void start(int width) {
            columns = width;
            rank = 0;
            for (int c = 0; c < MOST_PAIRS; c++) {
                hasBase[c] = false;
            }
        }

        /** base[c] has its first number that is not 0 at c. */
        private void addBits(int bits) {
            for (int c = 0; c < columns; c++) {
                fresh[c] = bits >> c & 1;
            }
            for (int c = 0; c < columns; c++) {
                if (fresh[c] != 0 && !hasBase[c]) {
                    System.arraycopy(fresh, 0, base[c], 0, columns);
                    hasBase[c] = true;
                    rank++;
                    return;
                }
                if (fresh[c] != 0) {
                    clearColumn(c);
                }
            }
        }

        private void clearColumn(int c) {
            long here = fresh[c];
            long there = base[c][c];
            for (int d = c; d < columns; d++) {
                fresh[d] = Math.floorMod(fresh[d] * there - base[c][d] * here, PRIME);
            }
        }
    }

    /** THE TAPE, and how it is read. */
    private static final class Tape {
        private static final int NO_BYTE = -1, ALL_READ = -1;
        private final int[] bytes = new int[MOST_TAPE];
        private int size = 0;
        private int spot = 0;

        private void append(int b) {
            if (size < MOST_TAPE) {
                bytes[size] = b;
                size++;
            }
        }

        /** The FAULT, or ALL_READ. */
        private int parseInto(Table table) {
            int n = figureAt(0);
            if (n < LEAST_POINTS || n > MOST_POINTS) {
                return 0;
            }
            table.clearTo(n);
            spot = 1;
            for (int i = 1; i < n; i++) {
                for (int j = 0; j < i; j++) {
                    if (byteAt(spot) != (j == 0 ? ';' : ',')) {
                        return spot;
                    }
                    spot++;
                    if (figureAt(spot) < 0) {
                        return spot;
                    }
                    table.far[table.pairOf(j, i)] = takeFigures();
                }
            }
            return spot < size ? spot : ALL_READ;
        }

        /** Three figures at most: a fourth one is left to be the FAULT. */
        private int takeFigures() {
            int v = 0;
            for (int k = 0; k < 3 && figureAt(spot) >= 0; k++) {
                v = 10 * v + figureAt(spot);
                spot++;
            }
            return v;
        }

        private int figureAt(int i) {
            int b = byteAt(i);
            return b >= '0' && b <= '9' ? b - '0' : -1;
        }

        private int byteAt(int i) {
            return i >= 0 && i < size ? bytes[i] : NO_BYTE;
        }
    }

    /** What is SPELLED. */
    private static final class Speller {
        private final int[] bytes = new int[MOST_SPELLED];
        private int size = 0;

        private void write(Table table) {
            size = 0;
            append('0' + table.n);
            for (int i = 1; i < table.n; i++) {
                for (int j = 0; j < i; j++) {
                    append(j == 0 ? ';' : ',');
                    writeFigures(table.between(j, i));
                }
            }
        }

        private void writeFigures(int v) {
            if (v >= 100) {
                append('0' + v / 100);
            }
            if (v >= 10) {
                append('0' + v / 10 % 10);
            }
            append('0' + v % 10);
        }

        private void append(int b) {
            if (size < MOST_SPELLED) {
                bytes[size] = b;
                size++;
            }
        }
    }
}
