import java.util.Arrays;
import java.util.NoSuchElementException;

/**
 * Worlds of acts with several entries, told by laws as sums of trees over numbers by a prime.
 *
 * Rows are made with the object and used again, because everything that a run of calls makes stays
 * in one room; those that are seldom long grow when they have to, up to a small bound.
 */
public final class LeafWorlds {
    public static final int NONE = -1;

    private static final int MOST_ACTS = 3;
    private static final int MOST_LAWS = 18;
    private static final int MOST_ENTRIES = 4;
    private static final int MOST_LEAVES = 7;
    private static final int MOST_COUNTED_LEAVES = 10;
    private static final int MOST_TREES = 300;
    private static final int MOST_WAYS = 3;
    private static final int MOST_FACTOR = 999;
    private static final int MOST_PRODUCTS = 1000;
    private static final int MOST_TAPE = 940;
    private static final int WORLD_BYTES = 900;
    private static final int SUM_BYTES = 400;
    private static final int FED_BYTES = 20;
    private static final int PLACES = 2;
    private static final int MOST_PAST = 8;
    private static final int GREATEST_PRIME = 97;

    /** A leaf in a row of a tree's nodes; acts are 0 to 2 there. */
    private static final int LEAF = 3;
    /** Seven leaves and at most six acts, since every act has two entries at least. */
    private static final int MOST_NODES = 13;
    /** A plug makes 1000 terms at most, and adding laws brings no more trees than the laws have. */
    private static final int MOST_TERMS = 1200;
    /** A term of a law takes seven bytes of 900 at least; a dual has at most 90 terms. */
    private static final int MOST_LAW_TERMS = 200;

    private static final int OUT_OF_REACH = -2;
    private static final int NOT_THERE = -1000;
    private static final int TOO_LARGE = -1001;

    private final byte[] tape = new byte[MOST_TAPE];
    private int tapeLength;
    private final Basis[] slots = new Basis[PLACES + 2];
    private int current;
    private final int[] keptSlots = new int[PLACES];
    private final Tables tables = new Tables();
    private final Tables[] keptTables = new Tables[PLACES];
    private final Tally atHand = new Tally();
    private final Tally[] keptTallies = new Tally[PLACES];
    private final Tally[] past = new Tally[MOST_PAST];
    private int pastCount;
    private int pastNext;
    private final Tally made = new Tally();
    private final Shaper shaper = new Shaper();
    private final Reader reader = new Reader();
    private final Writer writer = new Writer();
    private final Mapper mapper = new Mapper();
    private final Doer doer = new Doer();
    private final Series series = new Series();
    private final Dualizer dualizer = new Dualizer();

    public LeafWorlds() {
        for (int s = 0; s < slots.length; s++) {
            slots[s] = new Basis(new World());
        }
        for (int k = 0; k < PLACES; k++) {
            keptSlots[k] = NONE;
            keptTables[k] = new Tables();
            keptTallies[k] = new Tally();
        }
        for (int k = 0; k < MOST_PAST; k++) {
            past[k] = new Tally();
        }
    }

    public int feed(int a, int b, int c, int d, int e) {
        if (tapeLength + FED_BYTES > MOST_TAPE) {
            return NONE;
        }
        feedOne(a);
        feedOne(b);
        feedOne(c);
        feedOne(d);
        feedOne(e);
        return tapeLength;
    }

    private void feedOne(int number) {
        for (int shift = 24; shift >= 0; shift -= 8) {
            if (tapeLength < tape.length) {
                tape[tapeLength] = (byte) (number >>> shift);
                tapeLength++;
            }
        }
    }

    public boolean end(int n) {
        if (n < 0 || n > tapeLength) {
            return false;
        }
        tapeLength = n;
        return true;
    }

    /** Every call that reads the tape leaves it empty, whatever it answers. */
    private int emptyTape() {
        int length = tapeLength;
        tapeLength = 0;
        return length;
    }

    public int world() {
        int slot = freeSlot();
        Basis fresh = slots[slot];
        reader.begin(tape, emptyTape(), WORLD_BYTES);
        int lines = reader.readWorld(fresh.world);
        if (lines < 0) {
            return -1 - reader.faultPlace;
        }
        fresh.forget();
        current = slot;
        tables.clear(1);
        atHand.clear(1);
        pastCount = 0;
        return lines;
    }

    /** Worlds are never changed once they are told, so places share slots, and one of four is free. */
    private int freeSlot() {
        for (int s = 0; s < slots.length; s++) {
            if (s != current && s != keptSlots[0] && s != keptSlots[1]) {
                return s;
            }
        }
        return 0;
    }

    private Basis basisHere() {
        return slots[current];
    }

    private World worldHere() {
        return slots[current].world;
    }

    /** The basis kept in a place, or null. */
    private Basis basisKept(int k) {
        if (k < 0 || k >= PLACES) {
            return null;
        }
        int slot = keptSlots[k];
        return slot < 0 || slot >= slots.length ? null : slots[slot];
    }

    public int fault() {
        return reader.faultKind;
    }

    public int act(int a) {
        World world = worldHere();
        return world.hasAct(a) ? world.entries[a] : NONE;
    }

    public int law(int l, int what) {
        World world = worldHere();
        if (!world.hasLaw(l)) {
            return NONE;
        }
        if (what == 0) {
            return world.lawLeaves[l];
        }
        return what == 1 ? world.lawFrom[l + 1] - world.lawFrom[l] : NONE;
    }

    public int take(int l) {
        World world = worldHere();
        if (!world.hasLaw(l)) {
            return NONE;
        }
        made.clear(world.lawLeaves[l]);
        world.lawInto(made, l, 1);
        return keepMade();
    }

    /** What was made becomes the sum at hand; the one before it is kept for undo. */
    private int keepMade() {
        past[pastNext].copy(atHand);
        pastNext = (pastNext + 1) % MOST_PAST;
        pastCount = Math.min(MOST_PAST, pastCount + 1);
        atHand.copy(made);
        return atHand.terms;
    }

    public long trees(int n) {
        return n < 1 || n > MOST_COUNTED_LEAVES ? NONE : worldHere().treeCounts[n];
    }

    public int sum() {
        if (!readSumHere()) {
            return -1 - reader.faultPlace;
        }
        made.copy(reader.told);
        return keepMade();
    }

    private boolean readSumHere() {
        reader.begin(tape, emptyTape(), SUM_BYTES);
        return reader.readSumAlone(worldHere());
    }

    public int leaves() {
        return atHand.leaves;
    }

    public int term(int k) throws NoSuchElementException {
        if (k < 0 || k >= atHand.terms) {
            throw new NoSuchElementException("no such term");
        }
        return atHand.nums[k];
    }

    public int termAt(int k, int i) {
        if (k < 0 || k >= atHand.terms) {
            return NONE;
        }
        return writer.byteOf(worldHere(), atHand.keys[k], atHand.leaves, i);
    }

    public int reduce() {
        Basis basis = basisHere();
        if (!basis.reach(atHand.leaves)) {
            return NONE;
        }
        made.copy(atHand);
        basis.normalise(made);
        return keepMade();
    }

    public int size(int n) {
        Basis basis = basisHere();
        return basis.reach(n) ? basis.sizes[n] : NONE;
    }

    public int normalAt(int n, int k, int i) {
        Basis basis = basisHere();
        if (!basis.reach(n)) {
            return NONE;
        }
        int tree = basis.normalTree(n, k);
        return tree < 0 ? NONE : writer.byteOf(basis.world, basis.keyOf(n, tree), n, i);
    }

    public int bare(int n) {
        Basis basis = basisHere();
        return basis.reach(n) ? basis.countBare(n) : NONE;
    }

    public int closed(int n) {
        if (n < 1 || n > MOST_LEAVES) {
            return OUT_OF_REACH;
        }
        Basis basis = basisHere();
        for (int m = 1; m <= n; m++) {
            if (!basis.reach(m)) {
                return NONE;
            }
            basis.countBare(m);
            if (basis.unclosed[m]) {
                return m;
            }
        }
        return NONE;
    }

    public int plug(int i) {
        if (!readSumHere()) {
            return -1 - reader.faultPlace;
        }
        if (i < 0 || i >= atHand.leaves) {
            return NOT_THERE;
        }
        Tally inner = reader.told;
        if (atHand.leaves + inner.leaves - 1 > MOST_LEAVES || atHand.terms * inner.terms > MOST_PRODUCTS) {
            return TOO_LARGE;
        }
        shaper.join(atHand, i, inner, made, worldHere().prime);
        return keepMade();
    }

    public int times(int by) {
        if (!isFactor(by)) {
            return NONE;
        }
        made.clear(atHand.leaves);
        made.putAll(atHand, by, worldHere().prime);
        return keepMade();
    }

    private static boolean isFactor(int by) {
        return by >= -MOST_FACTOR && by <= MOST_FACTOR;
    }

    public int add(int l, int by) {
        World world = worldHere();
        if (!world.hasLaw(l) || world.lawLeaves[l] != atHand.leaves || !isFactor(by)) {
            return NONE;
        }
        made.copy(atHand);
        world.lawInto(made, l, by);
        return keepMade();
    }

    public int undo() {
        if (pastCount < 1) {
            return NONE;
        }
        pastCount--;
        pastNext = (pastNext + MOST_PAST - 1) % MOST_PAST;
        atHand.copy(past[pastNext]);
        return atHand.terms;
    }

    public int dual() {
        Basis basis = basisHere();
        if (!basis.world.hasDual() || !basis.reach(3)) {
            return NONE;
        }
        int slot = freeSlot();
        dualizer.make(basis, slots[slot].world, made);
        slots[slot].forget();
        current = slot;
        tables.clear(1);
        pastCount = 0;
        return worldHere().lawCount;
    }

    public long undone(int n) throws NoSuchElementException {
        Basis basis = basisHere();
        if (!basis.reach(n)) {
            throw new NoSuchElementException("not 1 to 7, or too many trees");
        }
        series.raise(basis.sizes, n);
        series.invert(n);
        return series.inverse[n];
    }

    public int koszul(int n) {
        Basis basis = basisHere();
        if (n < 1 || n > MOST_LEAVES || !basis.world.hasDual() || !basis.reach(3)) {
            return OUT_OF_REACH;
        }
        int top = 0;
        while (top < n && basis.reach(top + 1)) {
            top++;
        }
        findDualSizes(basis, top);
        series.raise(basis.sizes, top);
        series.invert(top);
        for (int k = 1; k <= top; k++) {
            long signed = k % 2 == 0 ? -basis.dualSizes[k] : basis.dualSizes[k];
            if (series.inverse[k] != signed) {
                return k;
            }
        }
        return NONE;
    }

    /** The sizes of the dual are kept with the world, for to find them is dear. */
    private void findDualSizes(Basis basis, int top) {
        if (basis.dualKnown >= top) {
            return;
        }
        Basis dual = slots[freeSlot()];
        dualizer.make(basis, dual.world, made);
        dual.forget();
        for (int k = 1; k <= top; k++) {
            basis.dualSizes[k] = dual.reach(k) ? dual.sizes[k] : 0;
        }
        basis.dualKnown = top;
    }

    public long layered(int k, int n) {
        Basis under = basisKept(k);
        Basis basis = basisHere();
        if (under == null || !basis.reach(n) || !under.reach(n)) {
            return NONE;
        }
        series.raise(under.sizes, n);
        return series.over(basis.sizes, n);
    }

    public int map(int k) {
        reader.begin(tape, emptyTape(), SUM_BYTES);
        Basis there = basisKept(k);
        World world = worldHere();
        if (there == null || there.world.prime != world.prime) {
            return NOT_THERE;
        }
        if (!reader.readMap(world, there.world, mapper.images)) {
            return -1 - reader.faultPlace;
        }
        for (int l = 0; l < world.lawCount; l++) {
            if (!there.reach(world.lawLeaves[l])) {
                return TOO_LARGE;
            }
        }
        return mapper.bringLaws(world, there, shaper);
    }

    public int broken() {
        return mapper.firstBroken;
    }

    public boolean space(int d) {
        if (d < 1 || d > MOST_WAYS) {
            return false;
        }
        tables.clear(d);
        return true;
    }

    public boolean table(int a) {
        int length = emptyTape();
        World world = worldHere();
        if (!world.hasAct(a) || length != power(tables.ways, world.entries[a] + 1)) {
            return false;
        }
        for (int i = 0; i < length; i++) {
            tables.set(a, i, rest(tape[i] & 255, world.prime));
        }
        return true;
    }

    public int holds(int l) {
        World world = worldHere();
        if (!world.hasLaw(l)) {
            return NONE;
        }
        return doer.isNothing(world, l, tables) ? 1 : 0;
    }

    public int done(int i) {
        int length = emptyTape();
        if (length != atHand.leaves || i < 0 || i >= tables.ways) {
            return NONE;
        }
        for (int leaf = 0; leaf < length; leaf++) {
            if ((tape[leaf] & 255) >= tables.ways) {
                return NONE;
            }
        }
        return doer.outcome(worldHere(), atHand, tables, tape, i);
    }

    public int drawn(int n, int seed) {
        Basis basis = basisHere();
        if (!basis.reach(n)) {
            return NONE;
        }
        int all = basis.treesOf(n);
        if (all < 1) {
            return NONE;
        }
        int turned = seed * 1103515245 + 12345;
        made.clear(n);
        made.put(basis.keyOf(n, (turned >>> 8) % all), 1, basis.world.prime);
        return keepMade();
    }

    public boolean image(int k) {
        if (k < 0 || k >= PLACES) {
            return false;
        }
        keptSlots[k] = current;
        keptTables[k].copy(tables);
        keptTallies[k].copy(atHand);
        return true;
    }

    public boolean restore(int k) {
        if (basisKept(k) == null) {
            return false;
        }
        current = keptSlots[k];
        tables.copy(keptTables[k]);
        atHand.copy(keptTallies[k]);
        pastCount = 0;
        return true;
    }

    public int count(int what) {
        switch (what) {
            case 0:
                return worldHere().prime;
            case 1:
                return worldHere().actCount;
            case 2:
                return worldHere().lawCount;
            case 3:
                return atHand.terms;
            case 4:
                return tables.ways;
            case 5:
                return tapeLength;
            default:
                return NONE;
        }
    }

    private static int rest(int number, int prime) {
        if (prime < 2) {
            return 0;
        }
        int over = number % prime;
        return over < 0 ? over + prime : over;
    }

    /** The number that times this one is 1 by the prime; 0 if there is none. */
    private static int inverseOf(int number, int prime) {
        for (int i = 1; i < prime; i++) {
            if (rest(i * number, prime) == 1) {
                return i;
            }
        }
        return 0;
    }

    private static int power(int base, int exponent) {
        int product = 1;
        for (int i = 0; i < exponent; i++) {
            product *= base;
        }
        return product;
    }

    /**
     * A tree is one number, its key: for each leaf how many acts are new on its path (3 bits), then
     * these acts (2 bits each), from bit 30 down. The last leaf never has new acts, so seven leaves
     * and six acts have room. Of trees with as many leaves the greater one has the greater key: where
     * all paths ahead are alike, a path is longer just if more of its acts are new. A leaf alone is 0.
     */
    private static final class Shaper {
        private static final int KEY_BITS = 30;
        private static final int RUN_BITS = 3;
        private static final int ACT_BITS = 2;

        final int[] row = new int[MOST_NODES];
        final int[] part = new int[MOST_NODES];
        final int[] joined = new int[MOST_NODES];
        final int[] vector = new int[MOST_TREES];

        /** The key of an act with leaves alone in its entries. */
        static int keyOfAct(int act) {
            return (1 << (KEY_BITS - RUN_BITS)) | (act << (KEY_BITS - RUN_BITS - ACT_BITS));
        }

        /** Writes the nodes of a tree, each act ahead of its entries: how many nodes. */
        static int open(int key, int leaves, int[] nodes) {
            int shift = KEY_BITS;
            int count = 0;
            for (int leaf = 0; leaf < leaves; leaf++) {
                shift -= RUN_BITS;
                int run = shift < 0 ? 0 : (key >>> shift) & 7;
                for (int j = 0; j < run; j++) {
                    shift -= ACT_BITS;
                    if (shift >= 0 && count < nodes.length) {
                        nodes[count] = (key >>> shift) & 3;
                        count++;
                    }
                }
                if (count < nodes.length) {
                    nodes[count] = LEAF;
                    count++;
                }
            }
            return count;
        }

        /** The key of the tree that stands in a row from a place up to another. */
        static int code(int[] nodes, int from, int to) {
            int key = 0;
            int shift = KEY_BITS;
            int runFrom = from;
            for (int at = from; at >= 0 && at < to && at < nodes.length; at++) {
                if (nodes[at] == LEAF) {
                    shift -= RUN_BITS;
                    // The bits of the last leaf may be past the end; they are all 0.
                    key |= shift < 0 ? 0 : (at - runFrom) << shift;
                    for (int j = runFrom; j < at; j++) {
                        shift -= ACT_BITS;
                        key |= shift < 0 ? 0 : nodes[j] << shift;
                    }
                    runFrom = at + 1;
                }
            }
            return key;
        }

        /** The place behind the tree that begins at a place of a row. */
        static int endOf(int[] nodes, int from, int count, int[] entries) {
            int missing = 1;
            int at = from;
            while (missing > 0 && at >= 0 && at < count && at < nodes.length) {
                int node = nodes[at];
                missing += node >= 0 && node < entries.length ? entries[node] - 1 : -1;
                at++;
            }
            return at;
        }

        static int leavesIn(int[] nodes, int from, int to) {
            int leaves = 0;
            for (int at = from; at >= 0 && at < to && at < nodes.length; at++) {
                if (nodes[at] == LEAF) {
                    leaves++;
                }
            }
            return leaves;
        }

        /** The key of the tree in this row, with another tree in place of its nodes from .. to. */
        int replaced(int count, int from, int to, int key, int leaves) {
            int partCount = open(key, leaves, part);
            return code(joined, 0, splice(count, from, to, partCount));
        }

        /** A tree put in a leaf of another one. */
        int grafted(int key, int leaves, int leaf, int smallKey, int smallLeaves) {
            int count = open(key, leaves, row);
            int partCount = open(smallKey, smallLeaves, part);
            int at = placeOfLeaf(leaf, count);
            return code(joined, 0, splice(count, at, at + 1, partCount));
        }

        /** Joins this row, but for its nodes from .. to, and the part in place of them: how many nodes. */
        private int splice(int count, int from, int to, int partCount) {
            int length = 0;
            for (int at = 0; at < from && at < row.length && length < joined.length; at++) {
                joined[length] = row[at];
                length++;
            }
            for (int at = 0; at < partCount && at < part.length && length < joined.length; at++) {
                joined[length] = part[at];
                length++;
            }
            for (int at = to; at >= 0 && at < count && at < row.length && length < joined.length; at++) {
                joined[length] = row[at];
                length++;
            }
            return length;
        }

        private int placeOfLeaf(int leaf, int count) {
            int seen = 0;
            for (int at = 0; at < count && at < row.length; at++) {
                if (row[at] == LEAF) {
                    if (seen == leaf) {
                        return at;
                    }
                    seen++;
                }
            }
            return count;
        }

        /** A sum put in a leaf of another one, term by term. */
        void join(Tally outer, int leaf, Tally inner, Tally out, int prime) {
            out.clear(outer.leaves + inner.leaves - 1);
            for (int i = 0; i < outer.terms; i++) {
                for (int j = 0; j < inner.terms; j++) {
                    int key = grafted(outer.keys[i], outer.leaves, leaf, inner.keys[j], inner.leaves);
                    out.put(key, outer.nums[i] * inner.nums[j], prime);
                }
            }
        }
    }

    /** A sum of trees with as many leaves, the greatest first, none with 0. */
    private static final class Tally {
        private static final int FIRST_TERMS = 32;

        int leaves = 1;
        int terms;
        int[] keys = new int[FIRST_TERMS];
        int[] nums = new int[FIRST_TERMS];

        void clear(int leavesNow) {
            leaves = leavesNow;
            terms = 0;
        }

        void copy(Tally other) {
            makeRoom(other.terms);
            leaves = other.leaves;
            terms = Math.min(other.terms, keys.length);
            System.arraycopy(other.keys, 0, keys, 0, terms);
            System.arraycopy(other.nums, 0, nums, 0, terms);
        }

        /** Most sums are short, so long rows are made when they are needed first. */
        private void makeRoom(int need) {
            if (need > keys.length && need <= MOST_TERMS) {
                int length = Math.min(MOST_TERMS, Math.max(need, 2 * keys.length));
                keys = Arrays.copyOf(keys, length);
                nums = Arrays.copyOf(nums, length);
            }
        }

        void put(int key, int number, int prime) {
            int more = rest(number, prime);
            if (more == 0) {
                return;
            }
            int at = placeOf(key);
            if (at >= terms || keys[at] != key) {
                makeRoom(terms + 1);
                insert(at, key, more);
                return;
            }
            nums[at] = rest(nums[at] + more, prime);
            if (nums[at] == 0) {
                remove(at);
            }
        }

        void putAll(Tally other, int by, int prime) {
            for (int i = 0; i < other.terms; i++) {
                put(other.keys[i], other.nums[i] * by, prime);
            }
        }

        /** The first place the key of which is not greater. */
        private int placeOf(int key) {
            int low = 0;
            int high = terms;
            while (low < high) {
                int middle = (low + high) >>> 1;
                if (keys[middle] > key) {
                    low = middle + 1;
                } else {
                    high = middle;
                }
            }
            return low;
        }

        private void insert(int at, int key, int number) {
            if (at < 0 || at > terms || terms >= keys.length) {
                return;
            }
            System.arraycopy(keys, at, keys, at + 1, terms - at);
            System.arraycopy(nums, at, nums, at + 1, terms - at);
            keys[at] = key;
            nums[at] = number;
            terms++;
        }

        private void remove(int at) {
            terms--;
            System.arraycopy(keys, at + 1, keys, at, terms - at);
            System.arraycopy(nums, at + 1, nums, at, terms - at);
        }
    }

    /** What the text of a world tells. */
    private static final class World {
        int prime;
        int actCount;
        final long[] names = new long[MOST_ACTS];
        final int[] entries = new int[MOST_ACTS];
        int lawCount;
        final int[] lawLeaves = new int[MOST_LAWS];
        final int[] lawFrom = new int[MOST_LAWS + 1];
        final int[] lawKeys = new int[MOST_LAW_TERMS];
        final int[] lawNums = new int[MOST_LAW_TERMS];
        final long[] treeCounts = new long[MOST_COUNTED_LEAVES + 1];
        private final long[][] forests = new long[MOST_ENTRIES + 1][MOST_COUNTED_LEAVES + 1];

        World() {
            prime = GREATEST_PRIME;
            treeCounts[1] = 1;
        }

        void clear() {
            prime = GREATEST_PRIME;
            actCount = 0;
            lawCount = 0;
        }

        boolean hasAct(int a) {
            return a >= 0 && a < actCount;
        }

        boolean hasLaw(int l) {
            return l >= 0 && l < lawCount;
        }

        int findAct(long name) {
            for (int a = 0; a < actCount; a++) {
                if (names[a] == name) {
                    return a;
                }
            }
            return NONE;
        }

        void addAct(long name, int actEntries) {
            if (actCount < MOST_ACTS) {
                names[actCount] = name;
                entries[actCount] = actEntries;
                actCount++;
            }
        }

        void addLaw(Tally tally) {
            int from = lawFrom[lawCount];
            if (lawCount >= MOST_LAWS || from + tally.terms > MOST_LAW_TERMS) {
                return;
            }
            lawLeaves[lawCount] = tally.leaves;
            System.arraycopy(tally.keys, 0, lawKeys, from, tally.terms);
            System.arraycopy(tally.nums, 0, lawNums, from, tally.terms);
            lawCount++;
            lawFrom[lawCount] = from + tally.terms;
        }

        /** Adds a law, times a number, to a sum. */
        void lawInto(Tally tally, int l, int by) {
            for (int i = lawFrom[l]; i < lawFrom[l + 1]; i++) {
                tally.put(lawKeys[i], lawNums[i] * by, prime);
            }
        }

        boolean hasDual() {
            for (int a = 0; a < actCount; a++) {
                if (entries[a] != 2) {
                    return false;
                }
            }
            for (int l = 0; l < lawCount; l++) {
                if (lawLeaves[l] != 3) {
                    return false;
                }
            }
            return true;
        }

        /** forests[o][n]: rows of o trees with n leaves in all. */
        void countTrees() {
            for (int n = 1; n <= MOST_COUNTED_LEAVES; n++) {
                for (int o = 2; o <= MOST_ENTRIES; o++) {
                    long ways = 0;
                    for (int j = 1; j < n; j++) {
                        ways += treeCounts[j] * forests[o - 1][n - j];
                    }
                    forests[o][n] = ways;
                }
                long all = n == 1 ? 1 : 0;
                for (int a = 0; a < actCount; a++) {
                    all += forests[entries[a]][n];
                }
                treeCounts[n] = all;
                forests[1][n] = all;
            }
        }
    }

    /**
     * The trees of a world as they rise, and for each tree that is not normal its rule: the normal
     * sum that it is like. It is found from few leaves to more, as far as it is asked for.
     *
     * A tree with an entry that is not normal has the rule of that entry put in its root. All other
     * rules come from laws with trees put in their leaves; such a sum of n leaves is a law, or one
     * of fewer leaves with one act put in a leaf, for what is put under the root is had already.
     */
    private static final class Basis {
        private static final int NORMAL = 0;
        private static final int BY_ENTRY = 1;
        private static final int BY_LAW = 2;
        /** 356 is the most for all worlds with at most 300 trees of each number of leaves. */
        private static final int MOST_KEYS = 400;
        private static final int FIRST_RULES = 512;
        /** The world with 356 trees has these: for each tree a number for each lesser one with as many leaves. */
        private static final int MOST_RULES = 35261;
        private static final int UNKNOWN = -1;

        final World world;
        private final Shaper shaper = new Shaper();
        private int built;
        private final int[] treeFrom = new int[MOST_LEAVES + 2];
        private final int[] keys = new int[MOST_KEYS];
        private final int[] marks = new int[MOST_KEYS];
        private final int[] ruleFrom = new int[MOST_LEAVES + 2];
        private int[] rules = new int[FIRST_RULES];
        final int[] sizes = new int[MOST_LEAVES + 1];
        private final int[] bareCounts = new int[MOST_LEAVES + 1];
        final boolean[] unclosed = new boolean[MOST_LEAVES + 1];
        final int[] dualSizes = new int[MOST_LEAVES + 1];
        int dualKnown;

        Basis(World itsWorld) {
            world = itsWorld;
            Arrays.fill(bareCounts, UNKNOWN);
        }

        /** The world has been told anew: nothing that was found is so any more. */
        void forget() {
            world.countTrees();
            built = 0;
            dualKnown = 0;
            Arrays.fill(bareCounts, UNKNOWN);
        }

        /** Whether sizes and rules are known for so many leaves; they are found if they can be. */
        boolean reach(int leaves) {
            if (leaves < 1 || leaves > MOST_LEAVES) {
                return false;
            }
            for (int n = built + 1; n <= leaves; n++) {
                if (world.treeCounts[n] > MOST_TREES) {
                    return false;
                }
                listTrees(n);
                addRulesByEntries(n);
                addLaws(n);
                addPluggedLaws(n);
                settleRules(n);
                built = n;
            }
            return true;
        }

        /** All rules are found: now they bring normal trees alone. */
        private void settleRules(int n) {
            sizes[n] = 0;
            for (int t = 0; t < treesOf(n); t++) {
                if (isNormal(n, t)) {
                    sizes[n]++;
                } else {
                    loadRule(n, t);
                    reduceVector(n);
                    storeRule(n, t, 1);
                }
            }
        }

        int treesOf(int n) {
            return treeFrom[n + 1] - treeFrom[n];
        }

        int keyOf(int n, int tree) {
            int at = treeFrom[n] + tree;
            return at >= 0 && at < keys.length ? keys[at] : 0;
        }

        boolean isNormal(int n, int tree) {
            int at = treeFrom[n] + tree;
            return at < 0 || at >= marks.length || marks[at] == NORMAL;
        }

        /** The k-th normal tree, or NONE. */
        int normalTree(int n, int k) {
            int left = k;
            for (int t = 0; t < treesOf(n); t++) {
                if (isNormal(n, t)) {
                    if (left == 0) {
                        return t;
                    }
                    left--;
                }
            }
            return NONE;
        }

        /** Every tree but the leaf is a smaller one with an act put in a leaf. */
        private void listTrees(int n) {
            treeFrom[n + 1] = treeFrom[n];
            if (n == 1) {
                insertKey(1, 0);
            }
            for (int a = 0; a < world.actCount; a++) {
                int m = n - world.entries[a] + 1;
                for (int t = 0; m >= 1 && t < treesOf(m); t++) {
                    for (int leaf = 0; leaf < m; leaf++) {
                        insertKey(n, shaper.grafted(keyOf(m, t), m, leaf, Shaper.keyOfAct(a), world.entries[a]));
                    }
                }
            }
            int all = treesOf(n);
            ruleFrom[n + 1] = ruleFrom[n] + all * (all - 1) / 2;
            makeRoom(ruleFrom[n + 1]);
            Arrays.fill(marks, treeFrom[n], treeFrom[n + 1], NORMAL);
        }

        private void insertKey(int n, int key) {
            int at = placeOf(n, key);
            int stop = treeFrom[n + 1];
            if (stop >= keys.length || at < stop && keys[at] == key) {
                return;
            }
            System.arraycopy(keys, at, keys, at + 1, stop - at);
            keys[at] = key;
            treeFrom[n + 1] = stop + 1;
        }

        private int placeOf(int n, int key) {
            int low = treeFrom[n];
            int high = treeFrom[n + 1];
            while (low < high) {
                int middle = (low + high) >>> 1;
                if (keys[middle] < key) {
                    low = middle + 1;
                } else {
                    high = middle;
                }
            }
            return low;
        }

        private void makeRoom(int need) {
            if (need > rules.length && need <= MOST_RULES) {
                rules = Arrays.copyOf(rules, Math.min(MOST_RULES, Math.max(need, 2 * rules.length)));
            }
        }

        private int ruleOf(int n, int tree) {
            return ruleFrom[n] + tree * (tree - 1) / 2;
        }

        private void clearVector(int n) {
            Arrays.fill(shaper.vector, 0, treesOf(n), 0);
        }

        private void addToVector(int n, int key, int number) {
            int at = placeOf(n, key) - treeFrom[n];
            if (at >= 0 && at < treesOf(n) && keyOf(n, at) == key) {
                shaper.vector[at] = rest(shaper.vector[at] + number, world.prime);
            }
        }

        /** From the greatest tree down, for a rule brings lesser trees alone. */
        private void reduceVector(int n) {
            int[] vector = shaper.vector;
            for (int t = treesOf(n) - 1; t >= 0; t--) {
                int number = vector[t];
                if (number != 0 && !isNormal(n, t)) {
                    vector[t] = 0;
                    int from = ruleOf(n, t);
                    for (int j = 0; j < t; j++) {
                        if (rules[from + j] != 0) {
                            vector[j] = rest(vector[j] + number * rules[from + j], world.prime);
                        }
                    }
                }
            }
        }

        private void loadRule(int n, int tree) {
            clearVector(n);
            System.arraycopy(rules, ruleOf(n, tree), shaper.vector, 0, tree);
        }

        private void storeRule(int n, int tree, int by) {
            int from = ruleOf(n, tree);
            for (int j = 0; j < tree; j++) {
                rules[from + j] = rest(shaper.vector[j] * by, world.prime);
            }
        }

        private void addRulesByEntries(int n) {
            for (int t = 0; t < treesOf(n); t++) {
                if (spreadByEntry(n, t)) {
                    reduceVector(n);
                    storeRule(n, t, 1);
                    marks[treeFrom[n] + t] = BY_ENTRY;
                }
            }
        }

        /** The tree with its first entry that is not normal made so, as a vector; false: all are. */
        private boolean spreadByEntry(int n, int tree) {
            int count = Shaper.open(keyOf(n, tree), n, shaper.row);
            int from = 1;
            for (int entry = 0; entry < MOST_ENTRIES && from < count; entry++) {
                int to = Shaper.endOf(shaper.row, from, count, world.entries);
                int m = Shaper.leavesIn(shaper.row, from, to);
                int sub = placeOf(m, Shaper.code(shaper.row, from, to)) - treeFrom[m];
                if (!isNormal(m, sub)) {
                    clearVector(n);
                    int rule = ruleOf(m, sub);
                    for (int c = 0; c < sub; c++) {
                        if (rules[rule + c] != 0) {
                            int key = shaper.replaced(count, from, to, keyOf(m, c), m);
                            addToVector(n, key, rules[rule + c]);
                        }
                    }
                    return true;
                }
                from = to;
            }
            return false;
        }

        private void addLaws(int n) {
            for (int l = 0; l < world.lawCount; l++) {
                if (world.lawLeaves[l] == n) {
                    clearVector(n);
                    for (int i = world.lawFrom[l]; i < world.lawFrom[l + 1]; i++) {
                        addToVector(n, world.lawKeys[i], world.lawNums[i]);
                    }
                    enterVector(n);
                }
            }
        }

        private void addPluggedLaws(int n) {
            for (int a = 0; a < world.actCount; a++) {
                int m = n - world.entries[a] + 1;
                for (int t = 0; m >= 2 && t < treesOf(m); t++) {
                    if (marks[treeFrom[m] + t] == BY_LAW) {
                        for (int leaf = 0; leaf < m; leaf++) {
                            loadPlugged(n, m, t, leaf, a);
                            enterVector(n);
                        }
                    }
                }
            }
        }

        /** A tree less what it is like, with an act put in a leaf. */
        private void loadPlugged(int n, int m, int tree, int leaf, int a) {
            clearVector(n);
            int actKey = Shaper.keyOfAct(a);
            int rule = ruleOf(m, tree);
            for (int c = 0; c <= tree; c++) {
                int number = c == tree ? 1 : -rules[rule + c];
                if (number != 0) {
                    addToVector(n, shaper.grafted(keyOf(m, c), m, leaf, actKey, world.entries[a]), number);
                }
            }
        }

        /** The vector is like 0: if that is new, its greatest tree gets a rule. */
        private void enterVector(int n) {
            reduceVector(n);
            int top = treesOf(n) - 1;
            while (top >= 0 && shaper.vector[top] == 0) {
                top--;
            }
            if (top >= 0) {
                storeRule(n, top, -inverseOf(shaper.vector[top], world.prime));
                marks[treeFrom[n] + top] = BY_LAW;
            }
        }

        /** Brings a sum to normal trees; its leaves have been reached. */
        void normalise(Tally tally) {
            int n = tally.leaves;
            clearVector(n);
            for (int i = 0; i < tally.terms; i++) {
                addToVector(n, tally.keys[i], tally.nums[i]);
            }
            reduceVector(n);
            tally.clear(n);
            for (int t = treesOf(n) - 1; t >= 0; t--) {
                tally.put(keyOf(n, t), shaper.vector[t], world.prime);
            }
        }

        /** How many trees are bare; and it is found whether one of them is not normal. */
        int countBare(int n) {
            if (bareCounts[n] == UNKNOWN) {
                int bares = 0;
                unclosed[n] = false;
                for (int t = 0; t < treesOf(n); t++) {
                    if (isBare(n, t)) {
                        bares++;
                        unclosed[n] = unclosed[n] || !isNormal(n, t);
                    }
                }
                bareCounts[n] = bares;
            }
            return bareCounts[n];
        }

        private boolean isBare(int n, int tree) {
            int count = Shaper.open(keyOf(n, tree), n, shaper.row);
            for (int l = 0; l < world.lawCount; l++) {
                int from = world.lawFrom[l];
                if (world.lawLeaves[l] <= n && from < world.lawFrom[l + 1]) {
                    int partCount = Shaper.open(world.lawKeys[from], world.lawLeaves[l], shaper.part);
                    for (int at = 0; at < count; at++) {
                        if (standsAt(at, count, partCount)) {
                            return false;
                        }
                    }
                }
            }
            return true;
        }

        /** Whether the opened part stands in the opened tree with its root at this place. */
        private boolean standsAt(int place, int count, int partCount) {
            int at = place;
            for (int i = 0; i < partCount; i++) {
                if (at >= count) {
                    return false;
                }
                if (shaper.part[i] == LEAF) {
                    at = Shaper.endOf(shaper.row, at, count, world.entries);
                } else if (shaper.row[at] == shaper.part[i]) {
                    at++;
                } else {
                    return false;
                }
            }
            return true;
        }
    }

    /** Reads texts token by token; the first fault ends the reading. */
    private static final class Reader {
        private static final int FAULT_TOKEN = 1;
        private static final int FAULT_NUMBER = 2;
        private static final int FAULT_NAME = 3;
        private static final int FAULT_MANY = 4;
        /** Kinds of tokens; every other token is of the kind of its own sign. */
        private static final int END = 0;
        private static final int CUT = 1;
        private static final int WORD = 2;
        private static final int NUMBER = 3;
        private static final int NO_TOKEN = 4;
        private static final int WORD_LETTERS = 6;
        private static final int NUMBER_DIGITS = 2;
        /** Words are held as numbers, a byte for each letter. */
        private static final long WORD_X = 'x';
        private static final long WORD_MOD = ('m' << 16) | ('o' << 8) | 'd';
        private static final long WORD_ACT = ('a' << 16) | ('c' << 8) | 't';
        private static final long WORD_LAW = ('l' << 16) | ('a' << 8) | 'w';
        /** An act that is opened takes two of 900 bytes at least. */
        private static final int MOST_OPEN = 480;

        private final int[] kinds = new int[MOST_TAPE + 1];
        private final int[] starts = new int[MOST_TAPE + 1];
        private final long[] values = new long[MOST_TAPE + 1];
        private int tokens;
        private int at;
        private int kind;
        private int start;
        private long value;
        private boolean primeTold;
        private final int[] missing = new int[MOST_OPEN];
        private final int[] nodes = new int[MOST_OPEN];
        private int nodeCount;
        private int treeLeaves;
        final Tally told = new Tally();
        int faultKind;
        int faultPlace;

        /** Parts a text into tokens; one that begins ahead of the most bytes is read whole, even past them. */
        void begin(byte[] text, int textLength, int most) {
            int length = Math.min(textLength, text.length);
            int stop = Math.min(length, most);
            int from = 0;
            tokens = 0;
            while (from < stop) {
                int to = from + 1;
                if (isSmall(text[from]) || isDigit(text[from])) {
                    while (to < length && (isSmall(text[to]) || isDigit(text[to]))) {
                        to++;
                    }
                }
                if (text[from] != ' ' && text[from] != '\n') {
                    addToken(text, from, to);
                }
                from = to;
            }
            kinds[tokens] = length > most ? CUT : END;
            starts[tokens] = stop;
            tokens++;
            faultKind = 0;
            faultPlace = 0;
            at = -1;
            advance();
        }

        private static boolean isSmall(byte b) {
            return b >= 'a' && b <= 'z';
        }

        private static boolean isDigit(byte b) {
            return b >= '0' && b <= '9';
        }

        private static boolean isSign(byte b) {
            return b == ';' || b == '(' || b == ')' || b == ',' || b == '+' || b == '-' || b == '=';
        }

        /** The last place is left for the end of the text. */
        private void addToken(byte[] text, int from, int to) {
            if (tokens >= MOST_TAPE) {
                return;
            }
            int letters = 0;
            int digits = 0;
            long worth = 0;
            for (int i = from; i < to; i++) {
                if (isSmall(text[i])) {
                    letters++;
                    worth = (worth << 8) | text[i];
                } else if (isDigit(text[i])) {
                    digits++;
                    worth = worth * 10 + text[i] - '0';
                }
            }
            starts[tokens] = from;
            values[tokens] = worth;
            kinds[tokens] = NO_TOKEN;
            if (letters + digits == 0) {
                kinds[tokens] = isSign(text[from]) ? text[from] : NO_TOKEN;
            } else if (digits == 0 && letters <= WORD_LETTERS) {
                kinds[tokens] = WORD;
            } else if (letters == 0 && digits <= NUMBER_DIGITS) {
                kinds[tokens] = NUMBER;
            }
            tokens++;
        }

        /** The end of the text stays, however often it is passed. */
        private void advance() {
            if (at + 1 < tokens) {
                at++;
            }
            kind = kinds[at];
            start = starts[at];
            value = values[at];
        }

        private boolean fail(int what, int place) {
            faultKind = what;
            faultPlace = place;
            return false;
        }

        private boolean isWord(long which) {
            return kind == WORD && value == which;
        }

        private boolean isName() {
            return kind == WORD && value != WORD_X && value != WORD_MOD && value != WORD_ACT && value != WORD_LAW;
        }

        private boolean skip(int sign) {
            if (kind != sign) {
                return fail(FAULT_TOKEN, start);
            }
            advance();
            return true;
        }

        /** How many lines the world has; below 0 with a fault. */
        int readWorld(World world) {
            world.clear();
            primeTold = false;
            int lines = 0;
            while (lines < tokens && kind != END) {
                boolean read;
                if (isWord(WORD_MOD)) {
                    read = readPrime(world);
                } else if (isWord(WORD_ACT)) {
                    read = readAct(world);
                } else if (isWord(WORD_LAW)) {
                    read = readLaw(world);
                } else {
                    read = fail(FAULT_TOKEN, start);
                }
                if (!read || !skip(';')) {
                    return NONE;
                }
                lines++;
            }
            return lines;
        }

        private boolean readPrime(World world) {
            if (primeTold || world.lawCount > 0) {
                return fail(FAULT_NAME, start);
            }
            advance();
            if (kind != NUMBER) {
                return fail(FAULT_TOKEN, start);
            }
            if (!isPrime((int) value)) {
                return fail(FAULT_NUMBER, start);
            }
            world.prime = (int) value;
            primeTold = true;
            advance();
            return true;
        }

        private static boolean isPrime(int n) {
            for (int d = 2; d < n; d++) {
                if (n % d == 0) {
                    return false;
                }
            }
            return n >= 2 && n <= GREATEST_PRIME;
        }

        private boolean readAct(World world) {
            if (world.lawCount > 0) {
                return fail(FAULT_NAME, start);
            }
            if (world.actCount >= MOST_ACTS) {
                return fail(FAULT_MANY, start);
            }
            advance();
            if (!isName()) {
                return fail(FAULT_TOKEN, start);
            }
            if (world.findAct(value) >= 0) {
                return fail(FAULT_NAME, start);
            }
            long name = value;
            advance();
            if (kind != NUMBER) {
                return fail(FAULT_TOKEN, start);
            }
            if (value < 2 || value > MOST_ENTRIES) {
                return fail(FAULT_NUMBER, start);
            }
            world.addAct(name, (int) value);
            advance();
            return true;
        }

        private boolean readLaw(World world) {
            if (world.lawCount >= MOST_LAWS) {
                return fail(FAULT_MANY, start);
            }
            advance();
            if (!readTerms(world, told, 0, 2)) {
                return false;
            }
            world.addLaw(told);
            return true;
        }

        /** The whole text as one sum. */
        boolean readSumAlone(World world) {
            if (!readTerms(world, told, 0, 1)) {
                return false;
            }
            return kind == END || fail(FAULT_TOKEN, start);
        }

        /** A sum: its trees have the wanted leaves (0: as many as the first), and the least ones. */
        private boolean readTerms(World world, Tally into, int wanted, int least) {
            boolean minus = kind == '-';
            if (minus) {
                advance();
            }
            for (int terms = 0; terms < tokens; terms++) {
                int factor = 1;
                if (kind == NUMBER) {
                    factor = (int) value;
                    advance();
                }
                int first = start;
                if (!readTree(world)) {
                    return false;
                }
                if (terms == 0) {
                    into.clear(wanted == 0 ? treeLeaves : wanted);
                }
                if (treeLeaves != into.leaves || treeLeaves < least) {
                    return fail(FAULT_NAME, first);
                }
                int key = Shaper.code(nodes, 0, nodeCount);
                into.put(key, minus ? -factor : factor, world.prime);
                if (kind != '+' && kind != '-') {
                    return true;
                }
                minus = kind == '-';
                advance();
            }
            return fail(FAULT_TOKEN, start);
        }

        /** A tree into the row of nodes; the entries that open acts miss stand on a stack of its own. */
        private boolean readTree(World world) {
            nodeCount = 0;
            treeLeaves = 0;
            int open = 0;
            for (int steps = 0; steps < MOST_OPEN; steps++) {
                if (!isWord(WORD_X)) {
                    int a = readActName(world);
                    if (a < 0 || !skip('(')) {
                        return false;
                    }
                    nodes[steps] = a;
                    missing[open] = world.entries[a];
                    open++;
                    continue;
                }
                if (treeLeaves >= MOST_LEAVES) {
                    return fail(FAULT_MANY, start);
                }
                treeLeaves++;
                nodes[steps] = LEAF;
                advance();
                open = closeActs(open);
                if (open <= 0) {
                    nodeCount = steps + 1;
                    return open == 0;
                }
            }
            return fail(FAULT_TOKEN, start);
        }

        /** Reads the name of an act of the world; words of the document itself are no names, so they can't come. */
        private int readActName(World world) {
            if (!isName()) {
                fail(FAULT_TOKEN, start);
                return NONE;
            }
            int a = world.findAct(value);
            if (a < 0) {
                fail(FAULT_NAME, start);
                return NONE;
            }
            advance();
            return a;
        }

        /** Behind a tree: reads ) of acts that have all entries, or a comma: how many stay open. */
        private int closeActs(int openActs) {
            for (int open = openActs; open > 0; open--) {
                missing[open - 1]--;
                if (missing[open - 1] > 0) {
                    return skip(',') ? open : NONE;
                }
                if (!skip(')')) {
                    return NONE;
                }
            }
            return 0;
        }

        /** A sum in the other world for each act of this one. */
        boolean readMap(World world, World other, Tally[] images) {
            for (int a = 0; a < images.length; a++) {
                images[a].clear(0);
            }
            for (int lines = 0; lines < tokens; lines++) {
                if (kind == END) {
                    return areAllTold(world, images);
                }
                int first = start;
                int a = readActName(world);
                if (a < 0 || a >= images.length) {
                    return false;
                }
                if (images[a].leaves > 0) {
                    return fail(FAULT_NAME, first);
                }
                if (!skip('=') || !readTerms(other, images[a], world.entries[a], 1) || !skip(';')) {
                    return false;
                }
            }
            return fail(FAULT_TOKEN, start);
        }

        private boolean areAllTold(World world, Tally[] images) {
            for (int a = 0; a < world.actCount && a < images.length; a++) {
                if (images[a].leaves == 0) {
                    return fail(FAULT_NAME, start);
                }
            }
            return true;
        }
    }

    /** Trees as texts without blanks. */
    private static final class Writer {
        /** Six names of six letters, each with ( and ), seven leaves and six commas are 61. */
        private static final int MOST_TEXT = 64;

        private final int[] nodes = new int[MOST_NODES];
        private final int[] missing = new int[MOST_NODES];
        private final int[] text = new int[MOST_TEXT];
        private int length;

        /** Byte i of the text of a tree, or NONE. */
        int byteOf(World world, int key, int leaves, int i) {
            write(world, key, leaves);
            return i >= 0 && i < length ? text[i] : NONE;
        }

        private void write(World world, int key, int leaves) {
            length = 0;
            int open = 0;
            int count = Shaper.open(key, leaves, nodes);
            for (int at = 0; at < count; at++) {
                int node = nodes[at];
                if (world.hasAct(node)) {
                    writeName(world.names[node]);
                    writeByte('(');
                    missing[open] = world.entries[node];
                    open++;
                } else {
                    writeByte('x');
                    open = writeClosings(open);
                }
            }
        }

        private int writeClosings(int openActs) {
            for (int open = openActs; open > 0; open--) {
                missing[open - 1]--;
                if (missing[open - 1] > 0) {
                    writeByte(',');
                    return open;
                }
                writeByte(')');
            }
            return 0;
        }

        private void writeName(long name) {
            for (int shift = 40; shift >= 0; shift -= 8) {
                int letter = (int) ((name >>> shift) & 255);
                if (letter != 0) {
                    writeByte(letter);
                }
            }
        }

        private void writeByte(int b) {
            if (length < text.length) {
                text[length] = b;
                length++;
            }
        }
    }

    /** Laws brought into another world, each act as its image there. */
    private static final class Mapper {
        final Tally[] images = new Tally[MOST_ACTS];
        int firstBroken = NONE;
        private final Tally step = new Tally();
        private final Tally next = new Tally();
        private final Tally total = new Tally();
        private final int[] nodes = new int[MOST_NODES];

        Mapper() {
            for (int a = 0; a < images.length; a++) {
                images[a] = new Tally();
            }
        }

        /** How many laws are kept. */
        int bringLaws(World world, Basis there, Shaper shaper) {
            int kept = 0;
            firstBroken = NONE;
            for (int l = world.lawCount - 1; l >= 0; l--) {
                if (isKept(world, l, there, shaper)) {
                    kept++;
                } else {
                    firstBroken = l;
                }
            }
            return kept;
        }

        private boolean isKept(World world, int l, Basis there, Shaper shaper) {
            total.clear(world.lawLeaves[l]);
            for (int i = world.lawFrom[l]; i < world.lawFrom[l + 1]; i++) {
                bring(world.lawKeys[i], world.lawLeaves[l], there, shaper);
                total.putAll(step, world.lawNums[i], world.prime);
            }
            return total.terms == 0;
        }

        /** The image of a tree: from its root on, each act's image is put in the leaf that it stands in. */
        private void bring(int key, int leaves, Basis there, Shaper shaper) {
            int prime = there.world.prime;
            step.clear(1);
            step.put(0, 1, prime);
            int leaf = 0;
            int count = Shaper.open(key, leaves, nodes);
            for (int at = 0; at < count; at++) {
                int node = nodes[at];
                if (node >= images.length) {
                    leaf++;
                } else {
                    shaper.join(step, leaf, images[node], next, prime);
                    there.normalise(next);
                    step.copy(next);
                }
            }
        }
    }

    /** A space of ways, and the tables of the acts in it. */
    private static final class Tables {
        /** Rows of four ways of three, and three ways of the outcome. */
        private static final int MOST_CELLS = 243;

        int ways = 1;
        private final int[] cells = new int[MOST_ACTS * MOST_CELLS];

        void clear(int waysNow) {
            ways = waysNow;
            Arrays.fill(cells, 0);
        }

        void copy(Tables other) {
            ways = other.ways;
            System.arraycopy(other.cells, 0, cells, 0, cells.length);
        }

        void set(int act, int i, int number) {
            if (act >= 0 && act < MOST_ACTS && i >= 0 && i < MOST_CELLS) {
                cells[act * MOST_CELLS + i] = number;
            }
        }

        int get(int act, int i) {
            return act >= 0 && act < MOST_ACTS && i >= 0 && i < MOST_CELLS ? cells[act * MOST_CELLS + i] : 0;
        }
    }

    /** Does trees and sums by tables. */
    private static final class Doer {
        /** Three ways for each of seven leaves and for the outcome. */
        private static final int MOST_BLOCK = 6561;

        private int[] block = new int[0];
        private int[] nextBlock = new int[0];
        private int[] total = new int[0];
        private final int[] nodes = new int[MOST_NODES];
        private final int[] stack = new int[MOST_NODES * MOST_WAYS];
        private final int[] result = new int[MOST_WAYS];

        /** Whether a law is 0 for all rows of ways. */
        boolean isNothing(World world, int l, Tables tables) {
            int leaves = world.lawLeaves[l];
            int cells = Math.min(MOST_BLOCK, power(tables.ways, leaves + 1));
            makeRoom(cells);
            Arrays.fill(total, 0, cells, 0);
            for (int i = world.lawFrom[l]; i < world.lawFrom[l + 1]; i++) {
                fillBlock(world, world.lawKeys[i], leaves, tables);
                for (int c = 0; c < cells; c++) {
                    total[c] = rest(total[c] + world.lawNums[i] * block[c], world.prime);
                }
            }
            for (int c = 0; c < cells; c++) {
                if (total[c] != 0) {
                    return false;
                }
            }
            return true;
        }

        private void makeRoom(int cells) {
            if (cells > total.length && cells <= MOST_BLOCK) {
                block = new int[cells];
                nextBlock = new int[cells];
                total = new int[cells];
            }
        }

        /** What a tree does for all rows of ways at once, from the root on, act by act. */
        private void fillBlock(World world, int key, int leaves, Tables tables) {
            int ways = tables.ways;
            for (int i = 0; i < ways; i++) {
                for (int o = 0; o < ways && i * ways + o < block.length; o++) {
                    block[i * ways + o] = i == o ? 1 : 0;
                }
            }
            int leaf = 0;
            int openLeaves = 1;
            int count = Shaper.open(key, leaves, nodes);
            for (int at = 0; at < count; at++) {
                if (!world.hasAct(nodes[at])) {
                    leaf++;
                } else {
                    int ahead = power(ways, leaf);
                    int behind = power(ways, openLeaves - leaf);
                    putTable(world, nodes[at], tables, ahead, behind);
                    openLeaves += world.entries[nodes[at]] - 1;
                }
            }
        }

        /** Puts an act in a leaf; ahead and behind: rows of ways of the others (and of the outcome). */
        private void putTable(World world, int act, Tables tables, int ahead, int behind) {
            int ways = tables.ways;
            int rows = power(ways, world.entries[act]);
            if (ahead * rows * behind > nextBlock.length) {
                return;
            }
            for (int b = 0; b < ahead; b++) {
                for (int r = 0; r < rows; r++) {
                    for (int e = 0; e < behind; e++) {
                        int number = 0;
                        for (int j = 0; j < ways; j++) {
                            number += tables.get(act, r * ways + j) * block[(b * ways + j) * behind + e];
                        }
                        nextBlock[(b * rows + r) * behind + e] = rest(number, world.prime);
                    }
                }
            }
            int[] old = block;
            block = nextBlock;
            nextBlock = old;
        }

        /** How much of way i a sum does to ways, one for each leaf. */
        int outcome(World world, Tally tally, Tables tables, byte[] leafWays, int i) {
            int number = 0;
            for (int t = 0; t < tally.terms; t++) {
                doTree(world, tally.keys[t], tally.leaves, tables, leafWays);
                number = rest(number + tally.nums[t] * stack[i], world.prime);
            }
            return number;
        }

        /** From the last node to the first: entries stand on the stack when their act comes. */
        private void doTree(World world, int key, int leaves, Tables tables, byte[] leafWays) {
            int ways = tables.ways;
            int height = 0;
            int leaf = leaves;
            for (int at = Shaper.open(key, leaves, nodes) - 1; at >= 0; at--) {
                if (world.hasAct(nodes[at])) {
                    int entries = world.entries[nodes[at]];
                    doAct(world, nodes[at], tables, height);
                    height -= entries;
                    for (int w = 0; w < ways && height >= 0; w++) {
                        stack[height * ways + w] = result[w];
                    }
                } else {
                    leaf--;
                    for (int w = 0; w < ways && leaf >= 0 && leaf < leafWays.length; w++) {
                        stack[height * ways + w] = leafWays[leaf] == w ? 1 : 0;
                    }
                }
                height++;
            }
        }

        /** An act takes the vectors on top of the stack, the topmost in its first entry. */
        private void doAct(World world, int act, Tables tables, int height) {
            int ways = tables.ways;
            int entries = world.entries[act];
            int rows = power(ways, entries);
            Arrays.fill(result, 0);
            for (int r = 0; r < rows && height >= entries; r++) {
                int product = 1;
                int digits = r;
                for (int entry = entries; entry >= 1 && product != 0; entry--) {
                    int way = ways < 1 ? 0 : digits % ways;
                    digits = ways < 1 ? 0 : digits / ways;
                    product = rest(product * stack[(height - entry) * ways + way], world.prime);
                }
                for (int o = 0; o < ways && product != 0; o++) {
                    result[o] = rest(result[o] + product * tables.get(act, r * ways + o), world.prime);
                }
            }
        }
    }

    /** Series of sizes. */
    private static final class Series {
        /** powers[k][n]: the n-th number of the series to the k. */
        private final long[][] powers = new long[MOST_LEAVES + 1][MOST_LEAVES + 1];
        final long[] inverse = new long[MOST_LEAVES + 1];

        void raise(int[] sizes, int top) {
            for (int n = 1; n <= top; n++) {
                powers[1][n] = sizes[n];
                for (int k = 2; k <= top; k++) {
                    long ways = 0;
                    for (int j = 1; j < n; j++) {
                        ways += sizes[j] * powers[k - 1][n - j];
                    }
                    powers[k][n] = ways;
                }
            }
        }

        /** The series that undoes the one that was raised; its first number is 1, as every one's is. */
        void invert(int top) {
            for (int n = 1; n <= top; n++) {
                long number = n == 1 ? 1 : 0;
                for (int k = 1; k < n; k++) {
                    number -= inverse[k] * powers[k][n];
                }
                inverse[n] = number;
            }
        }

        /** Other sizes over the series that was raised. */
        long over(int[] sizes, int n) {
            long ways = 0;
            for (int m = 1; m <= n; m++) {
                ways += sizes[m] * powers[m][n];
            }
            return ways;
        }
    }

    /** Finds the laws of dual worlds. */
    private static final class Dualizer {
        private static final int MOST_COLUMNS = 18;

        private final int[][] grid = new int[MOST_LAWS][MOST_COLUMNS];
        private final int[] pivotRow = new int[MOST_COLUMNS];
        private final int[] nodes = new int[MOST_NODES];

        /** Tells the dual of a world the trees of three leaves of which have been reached. */
        void make(Basis from, World into, Tally scratch) {
            World world = from.world;
            into.clear();
            into.prime = world.prime;
            for (int a = 0; a < world.actCount; a++) {
                into.addAct(world.names[a], world.entries[a]);
            }
            int columns = Math.min(MOST_COLUMNS, from.treesOf(3));
            fillGrid(from, columns);
            clearColumns(world.lawCount, columns, world.prime);
            for (int f = columns - 1; f >= 0; f--) {
                if (pivotRow[f] < 0) {
                    scratch.clear(3);
                    scratch.put(from.keyOf(3, f), 1, world.prime);
                    for (int c = 0; c < f; c++) {
                        if (pivotRow[c] >= 0) {
                            scratch.put(from.keyOf(3, c), -grid[pivotRow[c]][f], world.prime);
                        }
                    }
                    into.addLaw(scratch);
                }
            }
        }

        /** A row for each law: what a sum of the dual has to be 0 with. */
        private void fillGrid(Basis from, int columns) {
            World world = from.world;
            for (int l = 0; l < world.lawCount; l++) {
                fillRow(world, l, from, columns);
            }
        }

        private void fillRow(World world, int l, Basis from, int columns) {
            for (int c = 0; c < columns; c++) {
                int key = from.keyOf(3, c);
                Shaper.open(key, 3, nodes);
                int sign = nodes[1] == LEAF ? -1 : 1;
                grid[l][c] = rest(sign * numberOf(world, l, key), world.prime);
            }
        }

        private static int numberOf(World world, int l, int key) {
            for (int i = world.lawFrom[l]; i < world.lawFrom[l + 1]; i++) {
                if (world.lawKeys[i] == key) {
                    return world.lawNums[i];
                }
            }
            return 0;
        }

        /** Pivots are the least trees of rows, so that the greatest tree of a dual sum is a free one. */
        private void clearColumns(int rows, int columns, int prime) {
            int rank = 0;
            for (int c = 0; c < columns; c++) {
                pivotRow[c] = NONE;
                int found = rank;
                while (found < rows && grid[found][c] == 0) {
                    found++;
                }
                if (found < rows) {
                    swapRows(found, rank);
                    clearColumn(rank, c, rows, columns, prime);
                    pivotRow[c] = rank;
                    rank++;
                }
            }
        }

        private void swapRows(int one, int other) {
            for (int c = 0; c < MOST_COLUMNS; c++) {
                int number = grid[one][c];
                grid[one][c] = grid[other][c];
                grid[other][c] = number;
            }
        }

        private void clearColumn(int row, int column, int rows, int columns, int prime) {
            int by = inverseOf(grid[row][column], prime);
            for (int c = 0; c < columns; c++) {
                grid[row][c] = rest(grid[row][c] * by, prime);
            }
            for (int r = 0; r < rows; r++) {
                int times = r == row ? 0 : grid[r][column];
                for (int c = 0; c < columns && times != 0; c++) {
                    grid[r][c] = rest(grid[r][c] - times * grid[row][c], prime);
                }
            }
        }
    }
}
