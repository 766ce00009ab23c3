/** Wishes, what follows of them, and the clerk who refuses some: the document's promises 1 to 43. */
public final class WishClerk {
    public static final int BAD = -1, STATE = -2, FULL = -3, NONE = -4;

    private static final int MOST_BYTES = 160;
    private static final int MOST_PEOPLE = 8;
    private static final int MOST_WISHES = 8;
    private static final int MOST_DEPTH = 8;
    private static final int MOST_PLANNED = 6;
    private static final int MOST_SEEN = 8;
    private static final int MOST_CELLS = 40;
    private static final int MOST_READ = 20;
    private static final int MOST_WILD = 60;
    private static final int WISH_SETS = 1 << MOST_WISHES;
    private static final int SHEETS = 4;
    private static final int LANES = 3;
    private static final int IMAGES = 2;

    private static final int NULL_FAULT = 1;
    private static final int INDEX_FAULT = 2;
    private static final int CAST_FAULT = 3;
    private static final int SIZE_FAULT = 4;

    private final Tape tape = new Tape();
    private final Reader reader = new Reader(tape);
    private final Rows rows = new Rows();
    private final Book[] images = new Book[IMAGES];
    private final Sheet[] sheets = new Sheet[SHEETS];
    private final int[] dates = new int[MOST_WISHES];
    private Book book = new Book();
    private int kept;
    private int textFault;
    private int readFault;

    public WishClerk() {
        for (int k = 0; k < IMAGES; k++) {
            images[k] = new Book();
        }
        for (int k = 0; k < SHEETS; k++) {
            sheets[k] = new Sheet();
        }
    }

    // ---- the text

    public int feed(int c) {
        if (c < 0 || c > 127) {
            return BAD;
        }
        if (tape.length >= MOST_BYTES) {
            return FULL;
        }
        tape.bytes[tape.length] = (byte) c;
        tape.length++;
        return tape.length;
    }

    public int end(int n) {
        if (n < 0 || n > tape.length) {
            return BAD;
        }
        int had = tape.length;
        tape.length = n;
        return had;
    }

    public int text() {
        int lines = reader.readText();
        tape.length = 0;
        textFault = reader.fault;
        if (textFault != 0) {
            return -10 - reader.faultPlace;
        }
        Book told = reader.book;
        reader.book = book;
        book = told;
        kept = 0;
        return lines;
    }

    public int fault() {
        return textFault;
    }

    public int rule(int what) {
        switch (what) {
            case 0: return book.people;
            case 1: return book.wishes;
            case 2: return book.depth;
            case 3: return book.lives;
            case 4: return book.barred;
            case 5: return book.holds;
            case 6: return book.listed;
            case 7: return book.planned;
            default: return BAD;
        }
    }

    public int wish(int w, int what) {
        if (!book.hasWish(w)) {
            return BAD;
        }
        switch (what) {
            case 0: return book.years[w];
            case 1: return book.price[w];
            case 2: return book.ones[w];
            case 3: return book.needed[w];
            case 4: return book.clashing[w];
            case 5: return book.follows[w];
            case 6: return book.wanted[w];
            default: return BAD;
        }
    }

    public int plan(int i) {
        return i < 0 || i >= book.planned ? BAD : book.planWish[i];
    }

    // ---- what is changed

    public int live(int p, boolean is) {
        if (!book.hasOne(p)) {
            return BAD;
        }
        int was = bitOf(book.lives, p);
        book.lives = withBit(book.lives, p, is);
        return was;
    }

    public int bar(int p, boolean is) {
        if (!book.hasOne(p)) {
            return BAD;
        }
        int was = bitOf(book.barred, p);
        book.barred = withBit(book.barred, p, is);
        return was;
    }

    public int list(int w, boolean is) {
        if (!book.hasWish(w)) {
            return BAD;
        }
        int was = bitOf(book.listed, w);
        book.listed = withBit(book.listed, w, is);
        return was;
    }

    public int depth(int d) {
        if (d < 0 || d > MOST_DEPTH) {
            return BAD;
        }
        int was = book.depth;
        book.depth = d;
        return was;
    }

    public int asks(int w, int p, boolean is) {
        if (!book.hasWish(w) || !book.hasOne(p)) {
            return BAD;
        }
        int was = bitOf(book.ones[w], p);
        book.ones[w] = withBit(book.ones[w], p, is);
        book.workOutFollowers();
        return was;
    }

    public int needs(int w, int v, boolean is) {
        if (!book.hasTwoWishes(w, v)) {
            return BAD;
        }
        int was = bitOf(book.needed[w], v);
        book.needed[w] = withBit(book.needed[w], v, is);
        book.workOutFollowers();
        return was;
    }

    public int clash(int w, int v, boolean is) {
        if (!book.hasTwoWishes(w, v)) {
            return BAD;
        }
        int was = bitOf(book.clashing[w], v);
        book.clashing[w] = withBit(book.clashing[w], v, is);
        book.clashing[v] = withBit(book.clashing[v], w, is);
        return was;
    }

    public int plans(int w) {
        if (!book.hasWish(w)) {
            return BAD;
        }
        if (book.planned >= MOST_PLANNED) {
            return FULL;
        }
        book.planWish[book.planned] = w;
        book.planned++;
        return book.planned;
    }

    public int cut(int n) {
        if (n < 0 || n > book.planned) {
            return BAD;
        }
        int had = book.planned;
        book.planned = n;
        return had;
    }

    // ---- wishes asked

    public int looks(int w) {
        return book.hasWish(w) ? book.lookedAt(w, book.holds, book.depth) : BAD;
    }

    public int refuses(int w) {
        return book.hasWish(w) ? book.refusal(w, book.holds, book.lives, book.depth) : BAD;
    }

    public int ask(int w) {
        if (!book.hasWish(w)) {
            return BAD;
        }
        if (hasBit(book.holds, w)) {
            return STATE;
        }
        if (book.refusal(w, book.holds, book.lives, book.depth) != 0) {
            return NONE;
        }
        int came = book.wanted[w] & ~book.lives;
        book.holds |= book.follows[w];
        book.lives |= book.wanted[w];
        return Integer.bitCount(came);
    }

    public int take(int w) {
        if (!book.hasWish(w)) {
            return BAD;
        }
        if (!hasBit(book.holds, w)) {
            return STATE;
        }
        int gone = book.restingOn(1 << w, book.holds);
        book.holds &= ~gone;
        return Integer.bitCount(gone);
    }

    public int clashes() {
        int ends = 0;
        for (int w = 0; w < book.wishes; w++) {
            if (hasBit(book.holds, w)) {
                ends += Integer.bitCount(book.clashing[w] & book.holds);
            }
        }
        return ends / 2;
    }

    public int broken() {
        int found = 0;
        for (int w = 0; w < book.wishes; w++) {
            boolean whole = (book.follows[w] & ~book.holds) == 0 && (book.wanted[w] & ~book.lives) == 0;
            if (hasBit(book.holds, w) && !whole) {
                found |= 1 << w;
            }
        }
        return found;
    }

    // ---- rows

    public int row(int p, int what) {
        if (!book.hasOne(p) || what != 0 && (what < 10 || what > 17)) {
            return BAD;
        }
        rows.chart(book, book.depth);
        int length = rows.leastCost(book, p, false);
        if (what == 0 || length == NONE) {
            return length;
        }
        return rows.wishOfRow(book, what - 10);
    }

    public int cheap(int p) {
        if (!book.hasOne(p)) {
            return BAD;
        }
        rows.chart(book, book.depth);
        return rows.leastCost(book, p, true);
    }

    public int deep(int p) {
        if (!book.hasOne(p)) {
            return BAD;
        }
        if (hasBit(book.lives, p)) {
            return STATE;
        }
        for (int d = 0; d <= MOST_DEPTH; d++) {
            rows.chart(book, d);
            if (!rows.leadTo(book, p, 0)) {
                return d;
            }
        }
        return NONE;
    }

    public int fewest(int p, int what) {
        if (!book.hasOne(p) || what < 0 || what > 1) {
            return BAD;
        }
        if (hasBit(book.lives, p)) {
            return STATE;
        }
        rows.chart(book, book.depth);
        return sizeOrSet(leastStruck(p), what);
    }

    public int all() {
        rows.chart(book, book.depth);
        return rows.everAlive();
    }

    /** The set is found at last: with every wish struck no row is left. */
    private int leastStruck(int p) {
        for (int size = 0; size <= book.wishes; size++) {
            for (int struck = 0; struck < book.sets(); struck++) {
                boolean fresh = (struck & book.listed) == 0;
                if (fresh && Integer.bitCount(struck) == size && !rows.leadTo(book, p, struck)) {
                    return struck;
                }
            }
        }
        return NONE;
    }

    private static int sizeOrSet(int found, int what) {
        return found < 0 || what == 1 ? found : Integer.bitCount(found);
    }

    // ---- sets, dates

    public int set(int what) {
        return what < 0 || what > 1 ? BAD : sizeOrSet(leastClashing(), what);
    }

    public int rid(int what) {
        return what < 0 || what > 1 ? BAD : sizeOrSet(leastTaken(), what);
    }

    private int leastClashing() {
        int best = NONE;
        for (int group = 0; group < book.sets(); group++) {
            boolean smaller = best < 0 || Integer.bitCount(group) < Integer.bitCount(best);
            if (smaller && book.haveClash(book.followersOf(group))) {
                best = group;
            }
        }
        return best;
    }

    private int leastTaken() {
        int best = book.holds;
        for (int group = 0; group < book.sets(); group++) {
            boolean held = (group & ~book.holds) == 0;
            boolean smaller = Integer.bitCount(group) < Integer.bitCount(best);
            if (held && smaller && !book.haveClash(book.holds & ~book.restingOn(group, book.holds))) {
                best = group;
            }
        }
        return best;
    }

    public int date(int w) {
        if (!book.hasWish(w)) {
            return BAD;
        }
        if (book.goesRound(book.follows[w])) {
            return NONE;
        }
        // Without a round each turn settles at least one wish more of those that follow, whatever stood there.
        for (int turn = 0; turn < book.wishes; turn++) {
            for (int v = 0; v < book.wishes; v++) {
                if (hasBit(book.follows[w], v)) {
                    dates[v] = book.years[v] + latest(book.needed[v]);
                }
            }
        }
        return dates[w];
    }

    private int latest(int group) {
        int most = 0;
        for (int v = 0; v < book.wishes; v++) {
            if (hasBit(group, v)) {
                most = Math.max(most, dates[v]);
            }
        }
        return most;
    }

    // ---- seen

    public int see(int p, boolean is) {
        if (!book.hasOne(p)) {
            return BAD;
        }
        if (book.seen >= MOST_SEEN) {
            return FULL;
        }
        book.seenOne[book.seen] = p;
        book.seenAlive = withBit(book.seenAlive, book.seen, is);
        book.seen++;
        return book.seen;
    }

    public int forget(int n) {
        if (n < 0 || n > book.seen) {
            return BAD;
        }
        int had = book.seen;
        book.seen = n;
        return had;
    }

    public int fits(int what) {
        if (what < 0 || what > 3) {
            return BAD;
        }
        int fitting = 0;
        int least = NONE;
        int inAll = book.sets() - 1;
        int inSome = 0;
        int mustLive = book.seenOnes(true);
        int mustNot = book.seenOnes(false);
        for (int group = 0; group < book.sets(); group++) {
            int alive = book.lives | book.wantedBy(group);
            if ((mustLive & ~alive) == 0 && (mustNot & alive) == 0) {
                fitting++;
                least = least < 0 ? group : least;
                inAll &= group;
                inSome |= group;
            }
        }
        if (what == 0) {
            return fitting;
        }
        if (fitting == 0 || what == 1) {
            return least;
        }
        return what == 2 ? inAll : (book.sets() - 1) & ~inSome;
    }

    // ---- odds

    public long odds(int v, int p, int what) {
        if (v < 0 || v > 10 || !book.hasOne(p) || what < 0 || what > 1) {
            return BAD;
        }
        long good = 0;
        long whole = 0;
        for (int asleep = 0; asleep < 1 << book.planned; asleep++) {
            long weight = weightOf(asleep, v);
            whole += weight;
            if (weight > 0 && hasBit(aliveAfterPlan(asleep), p)) {
                good += weight;
            }
        }
        long shared = greatestDivisor(whole, good);
        if (shared == 0) {
            return BAD;
        }
        return what == 0 ? good / shared : whole / shared;
    }

    private long weightOf(int asleep, int v) {
        long weight = 1;
        for (int i = 0; i < book.planned; i++) {
            weight *= hasBit(asleep, i) ? v : 10 - v;
        }
        return weight;
    }

    private int aliveAfterPlan(int asleep) {
        int held = book.holds;
        int alive = book.lives;
        for (int i = 0; i < book.planned; i++) {
            int w = book.planWish[i];
            if (hasBit(held, w)) {
                continue;
            }
            if (hasBit(asleep, i) || book.refusal(w, held, alive, book.depth) == 0) {
                held |= book.follows[w];
                alive |= book.wanted[w];
            }
        }
        return alive;
    }

    private static long greatestDivisor(long a, long b) {
        long big = a;
        long small = b;
        // Euclid on numbers up to a million needs far fewer turns.
        for (int turn = 0; turn < 100 && small != 0; turn++) {
            long rest = big % small;
            big = small;
            small = rest;
        }
        return big;
    }

    // ---- by a seed

    public int wild(int seed, int n, int what) {
        if (n < 1 || n > MOST_WILD || what < 0 || what > 1) {
            return BAD;
        }
        if (book.wishes <= 0) {
            return STATE;
        }
        int next = seed;
        int held = book.holds;
        int alive = book.lives;
        int refused = 0;
        for (int i = 0; i < n; i++) {
            next = next * 1103515245 + 12345;
            int w = ((next >>> 16) & 0x7fff) % book.wishes;
            if (hasBit(held, w)) {
                held &= ~book.restingOn(1 << w, held);
            } else if (book.refusal(w, held, alive, book.depth) != 0) {
                refused++;
            } else {
                held |= book.follows[w];
                alive |= book.wanted[w];
            }
        }
        return what == 0 ? alive : refused;
    }

    // ---- images, sheets

    public int keep(int k) {
        if (k < 0 || k >= IMAGES) {
            return BAD;
        }
        int was = bitOf(kept, k);
        images[k].copyFrom(book);
        kept |= 1 << k;
        return was;
    }

    public int back(int k) {
        if (k < 0 || k >= IMAGES) {
            return BAD;
        }
        if (!hasBit(kept, k)) {
            return STATE;
        }
        book.copyFrom(images[k]);
        return book.holds;
    }

    public int sheet(int k, int lane, int n) {
        if (k < 0 || k >= SHEETS || lane < 0 || lane >= LANES || n > MOST_CELLS) {
            return BAD;
        }
        if (n < 0) {
            return -10 - SIZE_FAULT;
        }
        sheets[k].makeNew(lane, n);
        return 1;
    }

    public int lay(int k, int i, int v) {
        if (k < 0 || k >= SHEETS) {
            return BAD;
        }
        Sheet sheet = sheets[k];
        int found = sheet.faultAt(sheet.lane, i);
        if (found != 0) {
            return -10 - found;
        }
        sheet.write(i, v);
        return 1;
    }

    public int read(int k, int lane, int f, int n) {
        if (k < 0 || k >= SHEETS || lane < 0 || lane >= LANES || n < 0 || n > MOST_READ) {
            return BAD;
        }
        Sheet sheet = sheets[k];
        int held = book.holds;
        int alive = book.lives;
        int came = 0;
        int found = 0;
        while (came < n) {
            // Past the largest int the place wraps below 0, which is no cell either.
            int place = f + came;
            found = sheet.faultAt(lane, place);
            if (found != 0) {
                break;
            }
            if (ask(sheet.cells[place]) < 0) {
                book.holds = held;
                book.lives = alive;
                return -20 - came;
            }
            came++;
        }
        readFault = found;
        return came;
    }

    public int torn() {
        return readFault;
    }

    public int count(int what) {
        switch (what) {
            case 0: return Integer.bitCount(book.lives);
            case 1: return Integer.bitCount(book.holds);
            case 2: return book.seen;
            case 3: return Integer.bitCount(kept);
            case 4: return tape.length;
            case 5: return sheets[0].isNothing() ? NONE : sheets[0].size;
            case 6: return Integer.bitCount(book.listed);
            case 7: return Integer.bitCount(book.barred);
            default: return BAD;
        }
    }

    // ---- bits

    private static boolean hasBit(int bits, int i) {
        return ((bits >> i) & 1) != 0;
    }

    private static int bitOf(int bits, int i) {
        return (bits >> i) & 1;
    }

    private static int withBit(int bits, int i, boolean is) {
        return is ? bits | (1 << i) : bits & ~(1 << i);
    }

    private static final class Tape {
        final byte[] bytes = new byte[MOST_BYTES];
        int length;
    }

    /** A row of cells of one lane, or nothing; its cells are made once and used again. */
    private static final class Sheet {
        private static final int NO_LANE = -1;
        final int[] cells = new int[MOST_CELLS];
        int lane = NO_LANE;
        int size;

        boolean isNothing() {
            return lane == NO_LANE;
        }

        void makeNew(int newLane, int n) {
            lane = newLane;
            size = n;
            for (int i = 0; i < n; i++) {
                cells[i] = 0;
            }
        }

        /** What the machine would find at a cell of this sheet taken as of a lane. */
        int faultAt(int asLane, int i) {
            if (isNothing()) {
                return NULL_FAULT;
            }
            if (asLane != lane) {
                return CAST_FAULT;
            }
            return i < 0 || i >= size ? INDEX_FAULT : 0;
        }

        void write(int i, int v) {
            switch (lane) {
                case 0: cells[i] = (byte) v; break;
                case 1: cells[i] = (short) v; break;
                default: cells[i] = v; break;
            }
        }
    }

    /** All that a text tells and an image keeps; sets of people and of wishes are bits. */
    private static final class Book {
        int people;
        int wishes;
        int depth;
        int lives;
        int barred;
        int holds;
        int listed;
        final int[] years = new int[MOST_WISHES];
        final int[] price = new int[MOST_WISHES];
        final int[] ones = new int[MOST_WISHES];
        final int[] needed = new int[MOST_WISHES];
        final int[] clashing = new int[MOST_WISHES];
        final int[] follows = new int[MOST_WISHES];
        final int[] wanted = new int[MOST_WISHES];
        final int[] planWish = new int[MOST_PLANNED];
        int planned;
        final int[] seenOne = new int[MOST_SEEN];
        int seenAlive;
        int seen;

        boolean hasOne(int p) {
            return p >= 0 && p < people;
        }

        boolean hasWish(int w) {
            return w >= 0 && w < wishes;
        }

        boolean hasTwoWishes(int w, int v) {
            return hasWish(w) && hasWish(v) && w != v;
        }

        int sets() {
            return 1 << wishes;
        }

        void makeEmpty() {
            people = 0;
            wishes = 0;
            depth = 0;
            lives = 0;
            barred = 0;
            holds = 0;
            listed = 0;
            planned = 0;
            seenAlive = 0;
            seen = 0;
            for (int w = 0; w < MOST_WISHES; w++) {
                ones[w] = 0;
                needed[w] = 0;
                clashing[w] = 0;
            }
        }

        void copyFrom(Book other) {
            people = other.people;
            wishes = other.wishes;
            depth = other.depth;
            lives = other.lives;
            barred = other.barred;
            holds = other.holds;
            listed = other.listed;
            planned = other.planned;
            seenAlive = other.seenAlive;
            seen = other.seen;
            System.arraycopy(other.years, 0, years, 0, MOST_WISHES);
            System.arraycopy(other.price, 0, price, 0, MOST_WISHES);
            System.arraycopy(other.ones, 0, ones, 0, MOST_WISHES);
            System.arraycopy(other.needed, 0, needed, 0, MOST_WISHES);
            System.arraycopy(other.clashing, 0, clashing, 0, MOST_WISHES);
            System.arraycopy(other.follows, 0, follows, 0, MOST_WISHES);
            System.arraycopy(other.wanted, 0, wanted, 0, MOST_WISHES);
            System.arraycopy(other.planWish, 0, planWish, 0, MOST_PLANNED);
            System.arraycopy(other.seenOne, 0, seenOne, 0, MOST_SEEN);
        }

        /** Kept at hand, as nearly every call asks for it: to be called when what wishes need changes. */
        void workOutFollowers() {
            for (int w = 0; w < wishes; w++) {
                follows[w] = lookedAt(w, 0, wishes);
            }
            for (int w = 0; w < wishes; w++) {
                wanted[w] = gather(ones, follows[w]);
            }
        }

        int lookedAt(int w, int held, int deep) {
            int group = 1 << w;
            for (int i = 0; i < deep; i++) {
                int wider = group | (gather(needed, group) & ~held);
                if (wider == group) {
                    break;
                }
                group = wider;
            }
            return group;
        }

        /** Why the clerk, looking so deep, refuses a wish while these hold and live: 0 if he does not. */
        int refusal(int w, int held, int alive, int deep) {
            if (hasBit(listed, w)) {
                return 1;
            }
            int group = lookedAt(w, held, deep);
            if ((gather(ones, group) & barred & ~alive) != 0) {
                return 2;
            }
            return (gather(clashing, group) & (group | held)) != 0 ? 3 : 0;
        }

        /** All that the wishes of a group have in one of the rows above, together. */
        private int gather(int[] row, int group) {
            int found = 0;
            for (int w = 0; w < wishes; w++) {
                if (hasBit(group, w)) {
                    found |= row[w];
                }
            }
            return found;
        }

        boolean haveClash(int group) {
            return (gather(clashing, group) & group) != 0;
        }

        int followersOf(int group) {
            return gather(follows, group);
        }

        int wantedBy(int group) {
            return gather(wanted, group);
        }

        /** Those of the held of which one of the group follows. */
        int restingOn(int group, int held) {
            int found = 0;
            for (int w = 0; w < wishes; w++) {
                if (hasBit(held, w) && (follows[w] & group) != 0) {
                    found |= 1 << w;
                }
            }
            return found;
        }

        /** Whether one of the group is needed, round and round, by itself. */
        boolean goesRound(int group) {
            for (int w = 0; w < wishes; w++) {
                if (hasBit(group, w) && hasBit(followersOf(needed[w]), w)) {
                    return true;
                }
            }
            return false;
        }

        int seenOnes(boolean alive) {
            int found = 0;
            for (int i = 0; i < seen; i++) {
                if (hasBit(seenAlive, i) == alive) {
                    found |= 1 << seenOne[i];
                }
            }
            return found;
        }
    }

    /**
     * The rows that can be asked from what holds now. A state is the set of wishes that hold: it tells who
     * lives too, as each wish that came to hold brought all ones whom those that follow of it need. A wish
     * asked only adds to the set, so a state's followers have greater numbers than it.
     */
    private static final class Rows {
        private static final int UNKNOWN = -1;
        private static final int FAR = 1000000;
        private final int[] moves = new int[WISH_SETS];
        private final int[] alive = new int[WISH_SETS];
        private final int[] costs = new int[WISH_SETS];
        private final boolean[] marked = new boolean[WISH_SETS];
        private int start;
        private int states;

        /** Finds every state that a row leads to, with the wishes that are granted in it. */
        void chart(Book book, int deep) {
            start = book.holds;
            states = book.sets();
            for (int held = start; held < states; held++) {
                moves[held] = UNKNOWN;
                marked[held] = false;
            }
            marked[start] = true;
            alive[start] = book.lives;
            for (int held = start; held < states; held++) {
                if (marked[held]) {
                    moves[held] = grantedAt(book, held, deep);
                    bringToLife(book, held);
                    markNext(book, held, 0);
                }
            }
        }

        private int grantedAt(Book book, int held, int deep) {
            int granted = 0;
            for (int w = 0; w < book.wishes; w++) {
                if (!hasBit(held, w) && book.refusal(w, held, alive[held], deep) == 0) {
                    granted |= 1 << w;
                }
            }
            return granted;
        }

        private void bringToLife(Book book, int held) {
            for (int w = 0; w < book.wishes; w++) {
                if (hasBit(moves[held], w)) {
                    alive[held | book.follows[w]] = alive[held] | book.wanted[w];
                }
            }
        }

        private void markNext(Book book, int held, int struck) {
            for (int w = 0; w < book.wishes; w++) {
                if (hasBit(moves[held] & ~struck, w)) {
                    marked[held | book.follows[w]] = true;
                }
            }
        }

        /** Whether a one lives behind some charted row that has none of the wishes struck. */
        boolean leadTo(Book book, int p, int struck) {
            for (int held = start; held < states; held++) {
                marked[held] = false;
            }
            marked[start] = true;
            for (int held = start; held < states; held++) {
                if (marked[held]) {
                    if (hasBit(alive[held], p)) {
                        return true;
                    }
                    markNext(book, held, struck);
                }
            }
            return false;
        }

        int everAlive() {
            int found = 0;
            for (int held = start; held < states; held++) {
                if (moves[held] != UNKNOWN) {
                    found |= alive[held];
                }
            }
            return found;
        }

        /** The least cost, in wishes or in prices, of a charted row behind which a one lives, or NONE. */
        int leastCost(Book book, int p, boolean byPrice) {
            for (int held = states - 1; held >= start; held--) {
                if (moves[held] != UNKNOWN) {
                    costs[held] = hasBit(alive[held], p) ? 0 : costOfNext(book, held, byPrice);
                }
            }
            return costs[start] >= FAR ? NONE : costs[start];
        }

        private int costOfNext(Book book, int held, boolean byPrice) {
            int least = FAR;
            for (int w = 0; w < book.wishes; w++) {
                if (hasBit(moves[held], w)) {
                    int own = byPrice ? book.price[w] : 1;
                    least = Math.min(least, own + costs[held | book.follows[w]]);
                }
            }
            return least;
        }

        /** Wish i of the first by numbers of the shortest rows, whose lengths leastCost() has found. */
        int wishOfRow(Book book, int i) {
            int held = start;
            int w = NONE;
            for (int step = 0; step <= i; step++) {
                w = firstWish(book, held);
                if (w < 0) {
                    return NONE;
                }
                held |= book.follows[w];
            }
            return w;
        }

        private int firstWish(Book book, int held) {
            for (int w = 0; w < book.wishes; w++) {
                if (hasBit(moves[held], w) && costs[held | book.follows[w]] == costs[held] - 1) {
                    return w;
                }
            }
            return NONE;
        }
    }

    /** Reads a text token by token into a book of its own; the first fault met ends the reading. */
    private static final class Reader {
        private static final int END = 0;
        private static final int NAME = 1;
        private static final int NUMBER = 2;
        private static final int STOP = 3;

        private static final int NO_TOKEN = 1;
        private static final int MISPLACED = 2;
        private static final int OUT_OF_BOUNDS = 3;
        private static final int TWICE = 4;
        private static final int TOO_MANY = 5;
        private static final int MISSING = 6;

        Book book = new Book();
        int fault;
        int faultPlace;
        private final Tape tape;
        private int kind;
        private int first;
        private int behind;
        private int value;
        private boolean depthTold;
        private int onesNamed;
        private int wishesNamed;

        Reader(Tape tape) {
            this.tape = tape;
        }

        /** How many lines were read; fault tells whether it was all. */
        int readText() {
            book.makeEmpty();
            fault = 0;
            behind = 0;
            depthTold = false;
            onesNamed = 0;
            wishesNamed = 0;
            int lines = 0;
            boolean going = nextToken();
            // No line is without a byte, so there are no more lines than bytes.
            for (int i = 0; i < tape.length && going && kind != END; i++) {
                going = takeLine();
                if (going) {
                    lines++;
                    going = nextToken();
                }
            }
            if (going && ((onesNamed >> book.people) != 0 || (wishesNamed >> book.wishes) != 0)) {
                blame(MISSING, tape.length);
            }
            book.workOutFollowers();
            return lines;
        }

        private boolean blame(int what, int place) {
            fault = what;
            faultPlace = place;
            return false;
        }

        private boolean nextToken() {
            first = runEnd(behind, ' ', ' ');
            behind = first;
            if (first >= tape.length) {
                kind = END;
                return true;
            }
            int c = tape.bytes[first];
            if (c == ';') {
                kind = STOP;
                behind = first + 1;
                return true;
            }
            if (c >= 'a' && c <= 'z') {
                kind = NAME;
                behind = runEnd(first, 'a', 'z');
                return true;
            }
            kind = NUMBER;
            behind = runEnd(first, '0', '9');
            int figures = behind - first;
            if (figures < 1 || figures > 2) {
                return blame(NO_TOKEN, first);
            }
            value = 0;
            for (int i = first; i < behind; i++) {
                value = value * 10 + tape.bytes[i] - '0';
            }
            return true;
        }

        /** Where the run of bytes from low to high that begins at a place ends. */
        private int runEnd(int from, char low, char high) {
            int place = from;
            while (place < tape.length && tape.bytes[place] >= low && tape.bytes[place] <= high) {
                place++;
            }
            return place;
        }

        private boolean isName(String name) {
            if (kind != NAME || behind - first != name.length()) {
                return false;
            }
            for (int i = 0; i < name.length(); i++) {
                if (tape.bytes[first + i] != name.charAt(i)) {
                    return false;
                }
            }
            return true;
        }

        private boolean takeLine() {
            if (isName("one")) {
                return takeOne();
            }
            if (isName("wish")) {
                return takeWish();
            }
            if (isName("needs")) {
                return takeNeeds();
            }
            if (isName("clash")) {
                return takeClash();
            }
            if (isName("list")) {
                return takeListed();
            }
            if (isName("depth")) {
                return takeDepth();
            }
            if (isName("plan")) {
                return takePlanned();
            }
            return blame(MISPLACED, first);
        }

        private boolean takeOne() {
            if (book.people >= MOST_PEOPLE) {
                return blame(TOO_MANY, first);
            }
            if (!nextToken()) {
                return false;
            }
            boolean isAlive = isName("alive");
            boolean isBarred = isName("barred");
            if (!isAlive && !isBarred && !isName("dead")) {
                return blame(MISPLACED, first);
            }
            book.lives = withBit(book.lives, book.people, isAlive);
            book.barred = withBit(book.barred, book.people, isBarred);
            book.people++;
            return takeStop();
        }

        private boolean takeWish() {
            int w = book.wishes;
            if (w >= MOST_WISHES) {
                return blame(TOO_MANY, first);
            }
            if (!takeNumber(9, false)) {
                return false;
            }
            book.years[w] = value;
            if (!takeNumber(9, false)) {
                return false;
            }
            book.price[w] = value;
            if (!takeOnes(w)) {
                return false;
            }
            onesNamed |= book.ones[w];
            book.wishes++;
            return true;
        }

        private boolean takeOnes(int w) {
            // One number more than there are ones is one told already.
            for (int i = 0; i <= MOST_PEOPLE; i++) {
                if (!takeNumber(MOST_PEOPLE - 1, true)) {
                    return false;
                }
                if (kind == STOP) {
                    return true;
                }
                if (hasBit(book.ones[w], value)) {
                    return blame(TWICE, first);
                }
                book.ones[w] |= 1 << value;
            }
            return blame(MISPLACED, first);
        }

        private boolean takeNeeds() {
            if (!takeNumber(MOST_WISHES - 1, false)) {
                return false;
            }
            int w = value;
            wishesNamed |= 1 << w;
            // One number more than there are wishes is one needed already.
            for (int i = 0; i <= MOST_WISHES; i++) {
                if (!takeNumber(MOST_WISHES - 1, true)) {
                    return false;
                }
                if (kind == STOP) {
                    wishesNamed |= book.needed[w];
                    return true;
                }
                if (value == w || hasBit(book.needed[w], value)) {
                    return blame(TWICE, first);
                }
                book.needed[w] |= 1 << value;
            }
            return blame(MISPLACED, first);
        }

        private boolean takeClash() {
            if (!takeNumber(MOST_WISHES - 1, false)) {
                return false;
            }
            int w = value;
            if (!takeNumber(MOST_WISHES - 1, false)) {
                return false;
            }
            if (value == w || hasBit(book.clashing[w], value)) {
                return blame(TWICE, first);
            }
            book.clashing[w] |= 1 << value;
            book.clashing[value] |= 1 << w;
            wishesNamed |= (1 << w) | (1 << value);
            return takeStop();
        }

        private boolean takeListed() {
            if (!takeNumber(MOST_WISHES - 1, false)) {
                return false;
            }
            if (hasBit(book.listed, value)) {
                return blame(TWICE, first);
            }
            book.listed |= 1 << value;
            wishesNamed |= 1 << value;
            return takeStop();
        }

        private boolean takeDepth() {
            if (depthTold) {
                return blame(TWICE, first);
            }
            depthTold = true;
            if (!takeNumber(MOST_DEPTH, false)) {
                return false;
            }
            book.depth = value;
            return takeStop();
        }

        private boolean takePlanned() {
            if (book.planned >= MOST_PLANNED) {
                return blame(TOO_MANY, first);
            }
            if (!takeNumber(MOST_WISHES - 1, false)) {
                return false;
            }
            book.planWish[book.planned] = value;
            book.planned++;
            wishesNamed |= 1 << value;
            return takeStop();
        }

        /** Takes a number up to a bound or, where one may stand, a stop: kind tells which. */
        private boolean takeNumber(int most, boolean stopMayStand) {
            if (!nextToken()) {
                return false;
            }
            if (kind == STOP && stopMayStand) {
                return true;
            }
            if (kind != NUMBER) {
                return blame(MISPLACED, first);
            }
            return value <= most || blame(OUT_OF_BOUNDS, first);
        }

        private boolean takeStop() {
            if (!nextToken()) {
                return false;
            }
            return kind == STOP || blame(MISPLACED, first);
        }
    }
}
