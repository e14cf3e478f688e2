import java.util.Arrays;

/** Packets of food, what they cost by the gram, and a house that buys and eats them. */
public final class LargerPacket {
    public static final int BAD = -1, FULL = -2, FINDING = -3, STATE = -4, SPENT = -6, NONE = -9;

    private static final int NOTHING = 1, BEYOND = 2, UNLIKE = 3, NOUGHT = 4, SIZE = 5;
    private static final int FINDINGS = 6;

    private static final int ROWS = 6, ROW_SIZE = 40;
    private static final int TEXTS = 4, TEXT_SIZE = 60;
    private static final int BLANK = 32;
    private static final int MISSING = -1;
    private static final int MORE_FOR_BYTES = 1000;

    private static final int MOST_PACKETS = 6, MOST_PRICE = 99;
    private static final int PACKET = 0, CARD = 1, HEAP = 2, SACK = 3, PLAIN = 4, YOGHURT = 5;
    private static final int KINDS = 6;
    private static final int[] LETTERS = {112, 99, 104, 115, 108, 121};
    private static final int NEED_LETTER = 110;

    private static final int KEEPINGS = 10;
    private static final int MOST_DEEDS = 40;
    private static final int BUYING = 0, A_WEEK = 1, SHRINKING = 2, A_PRICE = 3, THE_CARD = 4;
    private static final int KEPT_PLACES = 3;

    private static final int COUNTS = 16, TELLINGS = 6;
    private static final int MOST_OF_ONE = 3, MOST_GRAMS_WANTED = 30;
    private static final int MOST_WEEKS_PLANNED = 3, MOST_WEEKS_ASIDE = 20, MOST_LASTING = 30;
    private static final int MOST_TO_COST = 40;
    private static final int MOST_PAIR_PLACES = 12, MOST_IN_PAIR = 20;
    private static final int MOST_GRAMS = 9, MOST_GOT = 360;
    private static final int MOST_TURNS = 2, DEARER = 7, WORTH_OF_GRAMS = 5;
    private static final int TWELFTHS = 12, MOST_GRAMS_AT_ONCE = 54;
    private static final int MOST_LOTS = 20;
    private static final long LOT_FACTOR = 48271L, LOT_MODULUS = 2147483647L;
    // Above every sum of prices that can come about, and far from the edge of int.
    private static final int UNREACHED = 1000000;

    private final Rows rows = new Rows(ROWS, ROW_SIZE);
    private final Rows texts = new Rows(TEXTS, TEXT_SIZE);
    private final Reader reader = new Reader();
    // The house before its first deed: undoing goes on from it by doing the earlier deeds again.
    private final House start = new House();
    private final House house = new House();
    private final House[] kept = new House[KEPT_PLACES];
    private final boolean[] isKept = new boolean[KEPT_PLACES];
    private final Larder aside = new Larder();
    private final Basket basket = new Basket();
    private final Planner planner = new Planner();
    private final int[] asking = new int[MOST_PACKETS];
    private final long[] ways = new long[MOST_GRAMS_AT_ONCE + 1];
    private final int[] findings = new int[FINDINGS];
    private int finding = 0;
    private int asked = 0;
    private long upper = 0;
    private long lower = 1;

    public LargerPacket() {
        for (int k = 0; k < KEPT_PLACES; k++) {
            kept[k] = new House();
        }
    }

    // ---- 1 rows, texts, houses

    public int row(int r, int n) {
        if (!rows.names(r) || n > ROW_SIZE) {
            return BAD;
        }
        if (n < 0) {
            return find(SIZE);
        }
        rows.makeAnew(r, n, 0);
        return n;
    }

    public int lay(int r, int i, int v) {
        if (!rows.names(r)) {
            return BAD;
        }
        int trouble = rows.troubleAt(r, i);
        if (trouble != 0) {
            return find(trouble);
        }
        asked = rows.get(r, i);
        rows.set(r, i, v);
        return 1;
    }

    public int at(int r, int i) {
        if (!rows.names(r)) {
            return BAD;
        }
        int trouble = rows.troubleAt(r, i);
        if (trouble != 0) {
            return find(trouble);
        }
        asked = rows.get(r, i);
        return 1;
    }

    public int tear(int r) {
        if (!rows.names(r)) {
            return BAD;
        }
        if (!rows.isThere(r)) {
            return find(NOTHING);
        }
        rows.remove(r);
        return 1;
    }

    public int copy(int r, int i, int to, int j, int n) {
        if (!rows.names(r) || !rows.names(to)) {
            return BAD;
        }
        if (n < 0) {
            return find(SIZE);
        }
        if (!rows.isThere(r) || !rows.isThere(to)) {
            return find(NOTHING);
        }
        if (!rows.hasPlaces(r, i, n) || !rows.hasPlaces(to, j, n)) {
            return find(BEYOND);
        }
        rows.move(r, i, to, j, n);
        return 1;
    }

    public int mean(int r) {
        if (!rows.names(r)) {
            return BAD;
        }
        if (!rows.isThere(r)) {
            return find(NOTHING);
        }
        int size = rows.sizeOf(r);
        if (size == 0) {
            return find(NOUGHT);
        }
        asked = (int) (rows.sumOf(r) / size);
        return 1;
    }

    public int text(int t, int n) {
        if (!texts.names(t) || n > TEXT_SIZE) {
            return BAD;
        }
        if (n < 0) {
            return find(SIZE);
        }
        texts.makeAnew(t, n, BLANK);
        return n;
    }

    public int put(int t, int i, int v) {
        if (!texts.names(t)) {
            return BAD;
        }
        int trouble = texts.troubleAt(t, i);
        if (trouble != 0) {
            return find(trouble);
        }
        int was = texts.get(t, i);
        texts.set(t, i, (byte) v);
        return was + MORE_FOR_BYTES;
    }

    public int fault(int t) {
        if (!texts.names(t)) {
            return BAD;
        }
        if (!texts.isThere(t)) {
            return find(NOTHING);
        }
        return reader.read(texts, t);
    }

    public int house(int t) {
        if (!texts.names(t)) {
            return BAD;
        }
        if (!texts.isThere(t)) {
            return find(NOTHING);
        }
        if (reader.read(texts, t) != NONE) {
            return STATE;
        }
        start.takeAll(reader.found);
        house.takeAll(start);
        for (int k = 0; k < KEPT_PLACES; k++) {
            isKept[k] = false;
        }
        return house.packets;
    }

    public int packet(int i, int what) {
        if (!house.has(i) || what < 0 || what >= TELLINGS) {
            return BAD;
        }
        asked = house.tell(i, what);
        return 1;
    }

    public int mark(int i, int kind) {
        if (!house.has(i) || kind <= PACKET || kind >= KINDS) {
            return BAD;
        }
        if (!Kinds.isA(house.kinds[i], kind)) {
            return find(UNLIKE);
        }
        return house.markOf(i, kind);
    }

    public int larder(int k) {
        if (k < 0 || k >= KEEPINGS) {
            return BAD;
        }
        return house.larder.keeping(k);
    }

    // ---- 2 deeds

    public int buy(int i, int n) {
        if (!house.has(i) || n < 1 || n > MOST_OF_ONE) {
            return BAD;
        }
        if (!house.hasRoomFor(i, n)) {
            return SPENT;
        }
        return house.perform(BUYING, i, n);
    }

    public int week() {
        if (house.packets == 0) {
            return STATE;
        }
        return house.perform(A_WEEK, 0, 0);
    }

    public int shrink(int i) {
        if (!house.has(i)) {
            return BAD;
        }
        if (!house.canShrink(i)) {
            return STATE;
        }
        return house.perform(SHRINKING, i, 0);
    }

    public int price(int i, int v) {
        if (!house.has(i) || v < 0 || v > MOST_PRICE) {
            return BAD;
        }
        if (house.prices[i] == v) {
            return STATE;
        }
        return house.perform(A_PRICE, i, v);
    }

    public int card(int has) {
        if (has != 0 && has != 1) {
            return BAD;
        }
        if (house.packets == 0 || house.hasCard == (has == 1)) {
            return STATE;
        }
        return house.perform(THE_CARD, 0, has);
    }

    public int undo(int n) {
        if (n < 0 || n >= house.deeds) {
            return BAD;
        }
        int many = house.deeds - n;
        house.doAgain(start, n);
        return many;
    }

    public int keep(int k) {
        if (k < 0 || k >= KEPT_PLACES) {
            return BAD;
        }
        if (house.packets == 0) {
            return STATE;
        }
        kept[k].takeAll(house);
        isKept[k] = true;
        return house.deeds;
    }

    public int on(int k) {
        if (k < 0 || k >= KEPT_PLACES) {
            return BAD;
        }
        if (!isKept[k]) {
            return find(NOTHING);
        }
        house.takeAll(kept[k]);
        return house.deeds;
    }

    // ---- 3 which is cheapest

    public int costs(int i, int n) {
        if (!house.has(i) || n < 0 || n > MOST_TO_COST) {
            return BAD;
        }
        return house.costOf(i, n);
    }

    public int rate(int i) {
        if (!house.has(i)) {
            return BAD;
        }
        if (house.getsBy(i) == 0) {
            return STATE;
        }
        tellRatio(house.costOf(i, 1), house.getsBy(i));
        return 1;
    }

    public int cheapest() {
        if (house.packets == 0) {
            return STATE;
        }
        int first = NONE;
        int all = 0;
        for (int i = 0; i < house.packets; i++) {
            if (house.getsBy(i) == 0) {
                continue;
            }
            int order = first == NONE ? -1 : house.compareRates(i, first);
            if (order < 0) {
                first = i;
                all = 1 << i;
            } else if (order == 0) {
                all |= 1 << i;
            }
        }
        if (first != NONE) {
            asked = all;
        }
        return first;
    }

    public int larger() {
        int many = 0;
        int first = NONE;
        for (int i = 0; i < house.packets; i++) {
            for (int j = i + 1; j < house.packets; j++) {
                if (house.isLargerOneDearer(i, j)) {
                    many++;
                    first = first == NONE ? MOST_PACKETS * i + j : first;
                }
            }
        }
        asked = first;
        return many;
    }

    // ---- 4 the least

    public int least(int v, int r) {
        if (v < 0 || v > MOST_GRAMS_WANTED || !rows.names(r)) {
            return BAD;
        }
        if (house.packets == 0) {
            return STATE;
        }
        int pennies = basket.fill(house, v);
        if (pennies >= UNREACHED) {
            return NONE;
        }
        rows.makeAnew(r, house.packets, 0);
        int left = v;
        for (int i = 0; i < house.packets; i++) {
            int n = basket.firstNumber(house, i, left);
            rows.set(r, i, n);
            left = Basket.leftBehind(house, i, n, left);
        }
        return pennies;
    }

    public int weeks(int n, int r) {
        if (n < 0 || n > MOST_WEEKS_PLANNED || !rows.names(r)) {
            return BAD;
        }
        if (house.packets == 0) {
            return STATE;
        }
        planner.search(house, n);
        if (planner.leastPennies >= UNREACHED) {
            return NONE;
        }
        rows.makeAnew(r, n, 0);
        for (int w = 0; w < n; w++) {
            rows.set(r, w, planner.best[w]);
        }
        return planner.leastPennies;
    }

    public int waste(int n) {
        if (n < 0 || n > MOST_WEEKS_PLANNED) {
            return BAD;
        }
        if (house.packets == 0) {
            return STATE;
        }
        planner.search(house, n);
        return planner.leastWaste >= UNREACHED ? NONE : planner.leastWaste;
    }

    // ---- 5 what is there

    public int off(int n) {
        if (n < 0 || n > MOST_WEEKS_ASIDE) {
            return BAD;
        }
        if (house.packets == 0) {
            return STATE;
        }
        aside.take(house.larder);
        int gone = 0;
        for (int w = 0; w < n; w++) {
            aside.eat(house.need);
            gone += aside.goOff();
        }
        return gone;
    }

    public int lasts() {
        if (house.packets == 0) {
            return STATE;
        }
        aside.take(house.larder);
        int w = 0;
        while (w < MOST_LASTING && aside.eat(house.need) == house.need) {
            aside.goOff();
            w++;
        }
        return w;
    }

    // ---- 6 looking

    public int looks(int c, int v) {
        if (c < 0 || c > 9 || v < 1 || v > MOST_GRAMS) {
            return BAD;
        }
        if (house.packets == 0) {
            return STATE;
        }
        int many = NONE;
        int together = UNREACHED;
        int cost = UNREACHED;
        for (int i = 0; i < house.packets; i++) {
            if (house.getsBy(i) >= v) {
                cost = Math.min(cost, house.costOf(i, 1));
            }
            if (cost + c * (i + 1) < together) {
                together = cost + c * (i + 1);
                many = i + 1;
            }
        }
        if (many != NONE) {
            asked = together;
        }
        return many;
    }

    // ---- 7 by what it cost

    public int kinds(int i, int r) {
        if (!house.has(i) || !rows.names(r)) {
            return BAD;
        }
        int trouble = troubleOfPairs(r);
        if (trouble != 0) {
            return find(trouble);
        }
        int all = 0;
        for (int kind = 0; kind < KINDS; kind++) {
            if (fitsPairs(r, kind, house.prices[i])) {
                all |= 1 << kind;
            }
        }
        return all;
    }

    public int prices(int i, int r) {
        if (!house.has(i) || !rows.names(r)) {
            return BAD;
        }
        int trouble = troubleOfPairs(r);
        if (trouble != 0) {
            return find(trouble);
        }
        int many = 0;
        int first = NONE;
        for (int v = 0; v <= MOST_PRICE; v++) {
            if (fitsPairs(r, house.kinds[i], v)) {
                many++;
                first = first == NONE ? v : first;
            }
        }
        asked = first;
        return many;
    }

    public int grams(int i, int n, int v) {
        if (!house.has(i) || n < 1 || n > MOST_TO_COST || v < 0 || v > MOST_GOT) {
            return BAD;
        }
        int all = 0;
        for (int g = 1; g <= MOST_GRAMS; g++) {
            if (n * Kinds.got(house.kinds[i], g) == v) {
                all |= 1 << g;
            }
        }
        return all;
    }

    // ---- 8 by turns

    public int shop(int n) {
        if (n < 0 || n > MOST_TURNS) {
            return BAD;
        }
        if (house.packets == 0) {
            return STATE;
        }
        for (int i = 0; i < house.packets; i++) {
            asking[i] = house.prices[i];
        }
        asked = shopTakes(house, asking, n);
        return 1;
    }

    // ---- 9 chances, lots

    public int odds(int v, int p) {
        if (v < 0 || v > MOST_GRAMS_AT_ONCE || p < 0 || p > TWELFTHS) {
            return BAD;
        }
        if (house.packets == 0) {
            return STATE;
        }
        long all = weighWays(p);
        long enough = 0;
        for (int g = v; g <= MOST_GRAMS_AT_ONCE; g++) {
            enough += ways[g];
        }
        tellRatio(enough, all);
        return 1;
    }

    public int mid(int p) {
        if (p < 0 || p > TWELFTHS) {
            return BAD;
        }
        if (house.packets == 0) {
            return STATE;
        }
        long sum = 0;
        for (int i = 0; i < house.packets; i++) {
            sum += house.costOf(i, 1);
        }
        tellRatio(sum * (TWELFTHS - p), TWELFTHS);
        return 1;
    }

    public int lots(int n, int seed) {
        if (n < 1 || n > MOST_LOTS || seed < 1 || seed >= LOT_MODULUS) {
            return BAD;
        }
        if (house.packets == 0) {
            return STATE;
        }
        if (!house.hasDeedsFor(n)) {
            return FULL;
        }
        long lot = seed;
        for (int d = 0; d < n; d++) {
            lot = lot * LOT_FACTOR % LOT_MODULUS;
            house.performLot(lot);
        }
        return house.larder.all();
    }

    // ---- 10 what is told

    public int asked() {
        return asked;
    }

    public long upper() {
        return upper;
    }

    public long lower() {
        return lower;
    }

    public int count(int what) {
        if (what < 0 || what >= COUNTS) {
            return BAD;
        }
        return counted(what);
    }

    public int finding() {
        return finding;
    }

    public int findings(int f) {
        if (f < NOTHING || f > SIZE) {
            return BAD;
        }
        return findings[f];
    }

    public long digest() {
        long h = 17;
        for (int what = 0; what < COUNTS; what++) {
            h = 31 * h + counted(what);
        }
        for (int k = 0; k < KEEPINGS; k++) {
            h = 31 * h + house.larder.keeping(k);
        }
        for (int i = 0; i < house.packets; i++) {
            for (int what = 0; what < TELLINGS; what++) {
                h = 31 * h + house.tell(i, what);
            }
        }
        for (int k = 0; k < KEPT_PLACES; k++) {
            h = 31 * h + (isKept[k] ? kept[k].deeds : MISSING);
        }
        return texts.mixInto(rows.mixInto(h));
    }

    private int find(int which) {
        finding = which;
        findings[which]++;
        return FINDING;
    }

    private int counted(int what) {
        switch (what) {
            case 11:
                return rows.there();
            case 12:
                return texts.there();
            case 13:
                return keptHouses();
            default:
                return house.counted(what);
        }
    }

    private int keptHouses() {
        int many = 0;
        for (int k = 0; k < KEPT_PLACES; k++) {
            many += isKept[k] ? 1 : 0;
        }
        return many;
    }

    private void tellRatio(long over, long under) {
        long divisor = commonDivisor(over, under);
        if (divisor > 0) {
            upper = over / divisor;
            lower = under / divisor;
        }
    }

    private static long commonDivisor(long a, long b) {
        long x = a;
        long y = b;
        // Euclid's rests at least halve in two steps, so a long needs no 200 of them.
        for (int step = 0; step < 200 && y != 0; step++) {
            long rest = x % y;
            x = y;
            y = rest;
        }
        return x;
    }

    private int troubleOfPairs(int r) {
        if (!rows.isThere(r)) {
            return NOTHING;
        }
        int size = rows.sizeOf(r);
        if (size > MOST_PAIR_PLACES || size % 2 != 0) {
            return SIZE;
        }
        for (int p = 0; p + 1 < size; p += 2) {
            int many = rows.get(r, p);
            if (many < 0 || many > MOST_IN_PAIR || rows.get(r, p + 1) < 0) {
                return UNLIKE;
            }
        }
        return 0;
    }

    private boolean fitsPairs(int r, int kind, int price) {
        for (int p = 0; p + 1 < rows.sizeOf(r); p += 2) {
            if (Kinds.cost(kind, rows.get(r, p), price, house.hasCard) != rows.get(r, p + 1)) {
                return false;
            }
        }
        return true;
    }

    /** Leaves the prices asked as they were. */
    private static int shopTakes(House house, int[] asking, int turns) {
        if (turns <= 0) {
            return 0;
        }
        int most = buyerPays(house, asking) + shopTakes(house, asking, turns - 1);
        for (int i = 0; i < house.packets; i++) {
            int was = asking[i];
            asking[i] = Math.min(MOST_PRICE, was + DEARER);
            most = Math.max(most, buyerPays(house, asking) + shopTakes(house, asking, turns - 1));
            asking[i] = was;
        }
        return most;
    }

    // What the buyer takes changes no later price, so the best of this turn is best for all.
    private static int buyerPays(House house, int[] asking) {
        int little = UNREACHED;
        for (int i = 0; i < house.packets; i++) {
            int cost = Kinds.cost(house.kinds[i], 1, asking[i], house.hasCard);
            little = Math.min(little, cost - WORTH_OF_GRAMS * house.getsBy(i));
        }
        return little;
    }

    /** Fills ways: in how many of all the ways that it answers one gets just so many GRAMS. */
    private long weighWays(int p) {
        Arrays.fill(ways, 0L);
        ways[0] = 1;
        long all = 1;
        for (int i = 0; i < house.packets; i++) {
            int got = house.getsBy(i);
            all *= TWELFTHS;
            // Downwards, so that the ways with fewer GRAMS are still those without this PACKET.
            for (int g = MOST_GRAMS_AT_ONCE; g >= 0; g--) {
                long with = g >= got ? ways[g - got] : 0;
                ways[g] = ways[g] * p + with * (TWELFTHS - p);
            }
        }
        return all;
    }

    /** Rows of ints of one longest size, some of them missing. */
    private static final class Rows {
        private final int[][] places;
        private final int[] sizes;

        Rows(int many, int longest) {
            places = new int[many][longest];
            sizes = new int[many];
            Arrays.fill(sizes, MISSING);
        }

        boolean names(int r) {
            return r >= 0 && r < sizes.length;
        }

        boolean isThere(int r) {
            return sizes[r] != MISSING;
        }

        int sizeOf(int r) {
            return sizes[r];
        }

        int get(int r, int i) {
            return places[r][i];
        }

        void set(int r, int i, int v) {
            places[r][i] = v;
        }

        void makeAnew(int r, int n, int filler) {
            Arrays.fill(places[r], filler);
            sizes[r] = n;
        }

        void remove(int r) {
            sizes[r] = MISSING;
        }

        int troubleAt(int r, int i) {
            if (!isThere(r)) {
                return NOTHING;
            }
            return i < 0 || i >= sizes[r] ? BEYOND : 0;
        }

        boolean hasPlaces(int r, int i, int n) {
            return i >= 0 && i <= sizes[r] && n <= sizes[r] - i;
        }

        void move(int r, int i, int to, int j, int n) {
            System.arraycopy(places[r], i, places[to], j, n);
        }

        long sumOf(int r) {
            long sum = 0;
            for (int i = 0; i < sizes[r]; i++) {
                sum += places[r][i];
            }
            return sum;
        }

        int there() {
            int many = 0;
            for (int r = 0; r < sizes.length; r++) {
                many += isThere(r) ? 1 : 0;
            }
            return many;
        }

        long mixInto(long before) {
            long h = before;
            for (int r = 0; r < sizes.length; r++) {
                h = 31 * h + sizes[r];
                for (int i = 0; i < sizes[r]; i++) {
                    h = 31 * h + places[r][i];
                }
            }
            return h;
        }
    }

    /** What a KIND of PACKETS does to cost, GRAMS and keeping. */
    private static final class Kinds {
        private Kinds() {
        }

        static boolean isA(int kind, int of) {
            return kind == of || parent(kind) == of;
        }

        private static int parent(int kind) {
            switch (kind) {
                case PLAIN:
                    return CARD;
                case YOGHURT:
                    return HEAP;
                default:
                    return PACKET;
            }
        }

        static int cost(int kind, int n, int price, boolean hasCard) {
            switch (kind) {
                case CARD:
                    return costByCard(n * price, hasCard);
                case HEAP:
                case YOGHURT:
                    return (n - n / 3) * price;
                case SACK:
                    return n * price / 2;
                case PLAIN:
                    return Math.max(0, costByCard(n * price, hasCard) - n);
                default:
                    return n * price;
            }
        }

        private static int costByCard(int pennies, boolean hasCard) {
            return hasCard ? pennies * 3 / 4 : pennies;
        }

        static int got(int kind, int grams) {
            return kind == SACK ? grams / 2 : grams;
        }

        static int keeping(int kind, int weeks) {
            return kind == YOGHURT ? weeks / 2 : weeks;
        }
    }

    /** GRAMS by how many WEEKS more they keep. */
    private static final class Larder {
        private final int[] grams = new int[KEEPINGS];

        int keeping(int k) {
            return grams[k];
        }

        int all() {
            int sum = 0;
            for (int k = 0; k < KEEPINGS; k++) {
                sum += grams[k];
            }
            return sum;
        }

        void take(Larder other) {
            System.arraycopy(other.grams, 0, grams, 0, KEEPINGS);
        }

        void add(int k, int more) {
            grams[k] += more;
        }

        /** Answers how much of what is wanted there was. */
        int eat(int wanted) {
            int left = wanted;
            for (int k = 0; k < KEEPINGS && left > 0; k++) {
                int bite = Math.min(left, grams[k]);
                grams[k] -= bite;
                left -= bite;
            }
            return wanted - left;
        }

        int goOff() {
            int gone = grams[0];
            System.arraycopy(grams, 1, grams, 0, KEEPINGS - 1);
            grams[KEEPINGS - 1] = 0;
            return gone;
        }
    }

    /** The PACKETS, what is at home, and the DEEDS that led there. */
    private static final class House {
        private final int[] kinds = new int[MOST_PACKETS];
        private final int[] grams = new int[MOST_PACKETS];
        private final int[] prices = new int[MOST_PACKETS];
        private final int[] keepings = new int[MOST_PACKETS];
        private final Larder larder = new Larder();
        private final int[] log = new int[MOST_DEEDS];
        private int packets = 0;
        private int need = 0;
        private int room = 0;
        private int week = 0;
        private int pennies = 0;
        private int eaten = 0;
        private int hunger = 0;
        private int waste = 0;
        private boolean hasCard = false;
        private int deeds = 0;

        void takeAll(House other) {
            takeStanding(other);
            System.arraycopy(other.log, 0, log, 0, MOST_DEEDS);
        }

        /** All but the log, which doAgain still reads. */
        private void takeStanding(House other) {
            System.arraycopy(other.kinds, 0, kinds, 0, MOST_PACKETS);
            System.arraycopy(other.grams, 0, grams, 0, MOST_PACKETS);
            System.arraycopy(other.prices, 0, prices, 0, MOST_PACKETS);
            System.arraycopy(other.keepings, 0, keepings, 0, MOST_PACKETS);
            larder.take(other.larder);
            packets = other.packets;
            need = other.need;
            room = other.room;
            week = other.week;
            pennies = other.pennies;
            eaten = other.eaten;
            hunger = other.hunger;
            waste = other.waste;
            hasCard = other.hasCard;
            deeds = other.deeds;
        }

        void doAgain(House start, int n) {
            takeStanding(start);
            for (int d = 0; d < n && d < MOST_DEEDS; d++) {
                perform(log[d] / 1000, log[d] / 100 % 10, log[d] % 100);
            }
        }

        boolean has(int i) {
            return i >= 0 && i < packets;
        }

        boolean hasDeedsFor(int n) {
            return deeds + n <= MOST_DEEDS;
        }

        boolean hasRoomFor(int i, int n) {
            return larder.all() + n * getsBy(i) <= room;
        }

        boolean canShrink(int i) {
            return grams[i] > 1;
        }

        int costOf(int i, int n) {
            return Kinds.cost(kinds[i], n, prices[i], hasCard);
        }

        int getsBy(int i) {
            return Kinds.got(kinds[i], grams[i]);
        }

        int keepsFor(int i) {
            return Kinds.keeping(kinds[i], keepings[i]);
        }

        /** Below 0 if the RATE of i is less than that of j; both must have one. */
        int compareRates(int i, int j) {
            return Integer.compare(costOf(i, 1) * getsBy(j), costOf(j, 1) * getsBy(i));
        }

        boolean isLargerOneDearer(int i, int j) {
            int more = Integer.compare(getsBy(i), getsBy(j));
            if (getsBy(i) == 0 || getsBy(j) == 0 || more == 0) {
                return false;
            }
            return compareRates(i, j) == more;
        }

        int tell(int i, int what) {
            switch (what) {
                case 0:
                    return kinds[i];
                case 1:
                    return grams[i];
                case 2:
                    return prices[i];
                case 3:
                    return keepsFor(i);
                case 4:
                    return costOf(i, 1);
                default:
                    return getsBy(i);
            }
        }

        int markOf(int i, int kind) {
            switch (kind) {
                case CARD:
                    return Kinds.cost(kinds[i], 1, prices[i], false)
                        - Kinds.cost(kinds[i], 1, prices[i], true);
                case HEAP:
                    return 3 * costOf(i, 1) - costOf(i, 3);
                case SACK:
                    return grams[i] - getsBy(i);
                case PLAIN:
                    return Kinds.cost(CARD, 1, prices[i], hasCard) - costOf(i, 1);
                default:
                    return keepings[i] - keepsFor(i);
            }
        }

        int counted(int what) {
            switch (what) {
                case 0:
                    return packets;
                case 1:
                    return week;
                case 2:
                    return deeds;
                case 3:
                    return pennies;
                case 4:
                    return larder.all();
                case 5:
                    return eaten;
                case 6:
                    return hunger;
                case 7:
                    return waste;
                case 8:
                    return hasCard ? 1 : 0;
                case 9:
                    return packetsOf(CARD);
                case 10:
                    return packetsOf(HEAP);
                case 14:
                    return need;
                default:
                    return room;
            }
        }

        private int packetsOf(int kind) {
            int many = 0;
            for (int i = 0; i < packets; i++) {
                many += Kinds.isA(kinds[i], kind) ? 1 : 0;
            }
            return many;
        }

        /** Does what was found to be possible but for FULL, and logs it; answers what the DEED's call answers. */
        int perform(int deed, int i, int v) {
            if (!hasDeedsFor(1)) {
                return FULL;
            }
            log[deeds] = deed * 1000 + i * 100 + v;
            deeds++;
            switch (deed) {
                case BUYING:
                    return bringHome(i, v);
                case A_WEEK:
                    return passWeek();
                case SHRINKING:
                    grams[i]--;
                    return grams[i];
                case A_PRICE:
                    int was = prices[i];
                    prices[i] = v;
                    return was;
                default:
                    hasCard = v == 1;
                    return v;
            }
        }

        private int bringHome(int i, int n) {
            int cost = costOf(i, n);
            pennies += cost;
            larder.add(keepsFor(i), n * getsBy(i));
            return cost;
        }

        private int passWeek() {
            int had = larder.eat(need);
            eaten += had;
            hunger += need - had;
            int gone = larder.goOff();
            waste += gone;
            week++;
            return gone;
        }

        void performLot(long lot) {
            if (packets == 0) {
                return;
            }
            int what = (int) (lot / 8 % 4);
            int i = (int) (lot % packets);
            if (what <= 1 && hasRoomFor(i, 1)) {
                perform(BUYING, i, 1);
            } else if (what == 3 && canShrink(i)) {
                perform(SHRINKING, i, 0);
            } else {
                perform(A_WEEK, 0, 0);
            }
        }

        void addPacket(int kind, int weight, int price, int keeping) {
            if (packets < MOST_PACKETS) {
                kinds[packets] = kind;
                grams[packets] = weight;
                prices[packets] = price;
                keepings[packets] = keeping;
                packets++;
            }
        }
    }

    /** Reads a HOUSE from a TEXT, up to its end or its first FAULT. */
    private static final class Reader {
        private final House found = new House();
        private final int[] signs = new int[TEXT_SIZE];
        private int size = 0;
        private int place = 0;
        private int trouble = NONE;

        int read(Rows texts, int t) {
            begin(texts, t);
            readNeeds();
            readPacket();
            for (int i = 1; i < MOST_PACKETS && goesOn(); i++) {
                readPacket();
            }
            // What still goes on here is a seventh PACKET, or none at all.
            if (goesOn()) {
                trouble = place;
            }
            return trouble;
        }

        private void begin(Rows texts, int t) {
            found.packets = 0;
            size = texts.sizeOf(t);
            for (int i = 0; i < size; i++) {
                signs[i] = texts.get(t, i);
            }
            place = 0;
            trouble = NONE;
            skipBlanks();
        }

        private boolean goesOn() {
            return trouble == NONE && place < size;
        }

        private void skipBlanks() {
            while (place < size && signs[place] == BLANK) {
                place++;
            }
        }

        private void readNeeds() {
            if (!goesOn() || signs[place] != NEED_LETTER) {
                trouble = place;
                return;
            }
            place++;
            found.need = readFigure(1);
            found.room = readTwoFigures();
            skipBlanks();
        }

        private void readPacket() {
            int kind = readKind();
            int weight = readFigure(1);
            int price = readTwoFigures();
            int keeping = readFigure(1);
            if (trouble == NONE) {
                found.addPacket(kind, weight, price, keeping);
                skipBlanks();
            }
        }

        private int readKind() {
            if (goesOn()) {
                for (int kind = 0; kind < KINDS; kind++) {
                    if (signs[place] == LETTERS[kind]) {
                        place++;
                        return kind;
                    }
                }
            }
            faultHere();
            return PACKET;
        }

        private int readTwoFigures() {
            int tens = readFigure(0);
            return 10 * tens + readFigure(0);
        }

        private int readFigure(int lowest) {
            if (goesOn()) {
                int figure = signs[place] - '0';
                if (figure >= lowest && figure <= 9) {
                    place++;
                    return figure;
                }
            }
            faultHere();
            return 0;
        }

        // The first fault counts: what would be read behind it is not looked at.
        private void faultHere() {
            if (trouble == NONE) {
                trouble = place;
            }
        }
    }

    /** The least PENNIES for so many GRAMS, by the PACKETS from one on. */
    private static final class Basket {
        private final int[][] pennies = new int[MOST_PACKETS + 1][MOST_GRAMS_WANTED + 1];

        int fill(House house, int v) {
            for (int g = 0; g <= v; g++) {
                pennies[house.packets][g] = g == 0 ? 0 : UNREACHED;
            }
            for (int i = house.packets - 1; i >= 0; i--) {
                for (int g = 0; g <= v; g++) {
                    pennies[i][g] = leastFrom(house, i, g);
                }
            }
            return pennies[0][v];
        }

        private int leastFrom(House house, int i, int g) {
            int little = UNREACHED;
            for (int n = 0; n <= MOST_OF_ONE; n++) {
                little = Math.min(little, penniesWith(house, i, n, g));
            }
            return little;
        }

        private int penniesWith(House house, int i, int n, int g) {
            return house.costOf(i, n) + pennies[i + 1][leftBehind(house, i, n, g)];
        }

        static int leftBehind(House house, int i, int n, int g) {
            return Math.max(0, g - n * house.getsBy(i));
        }

        /** The fewest of PACKET i by which the least for g GRAMS can still be had. */
        int firstNumber(House house, int i, int g) {
            int n = 0;
            while (n < MOST_OF_ONE && penniesWith(house, i, n, g) != pennies[i][g]) {
                n++;
            }
            return n;
        }
    }

    /** Tries out all that can be BOUGHT in a few WEEKS without HUNGER. */
    private static final class Planner {
        private final Larder[] larders = new Larder[MOST_WEEKS_PLANNED + 1];
        private final int[] plan = new int[MOST_WEEKS_PLANNED];
        private final int[] best = new int[MOST_WEEKS_PLANNED];
        private int weeks = 0;
        private int leastPennies = UNREACHED;
        private int leastWaste = UNREACHED;

        Planner() {
            for (int w = 0; w <= MOST_WEEKS_PLANNED; w++) {
                larders[w] = new Larder();
            }
        }

        void search(House house, int n) {
            weeks = Math.min(n, MOST_WEEKS_PLANNED);
            leastPennies = UNREACHED;
            leastWaste = UNREACHED;
            larders[0].take(house.larder);
            goOn(house, 0, 0, 0);
        }

        private void goOn(House house, int w, int pennies, int waste) {
            if (w >= weeks) {
                weigh(pennies, waste);
                return;
            }
            liveWeek(house, w, NONE, pennies, waste);
            for (int i = 0; i < house.packets; i++) {
                liveWeek(house, w, i, pennies, waste);
            }
        }

        private void liveWeek(House house, int w, int i, int pennies, int waste) {
            Larder then = larders[w + 1];
            then.take(larders[w]);
            int cost = 0;
            if (i != NONE) {
                int more = house.getsBy(i);
                if (then.all() + more > house.room) {
                    return;
                }
                then.add(house.keepsFor(i), more);
                cost = house.costOf(i, 1);
            }
            if (then.eat(house.need) == house.need) {
                plan[w] = i;
                goOn(house, w + 1, pennies + cost, waste + then.goOff());
            }
        }

        // Plans come in the document's order, so only what is less takes the place of the best.
        private void weigh(int pennies, int waste) {
            leastWaste = Math.min(leastWaste, waste);
            if (pennies < leastPennies) {
                leastPennies = pennies;
                System.arraycopy(plan, 0, best, 0, weeks);
            }
        }
    }
}
