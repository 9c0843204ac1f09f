/**
 * A lake without a middle: its fishermen own as much of the water as they see from their doors.
 * The document's numbered promises tell what each call answers.
 */
public final class SeenWaters {
    public static final int NONE = -1, UNKNOWN = -1000000001, OUTSIDE = -1000000002, NOT = -1000000003, FULL = -1000000004;

    private static final int MOST_BYTES = 500;
    private static final int MOST_AT_ONCE = 8;
    private static final int MOST_SIDE = 12;
    private static final int MOST_CELLS = 60;
    private static final int MOST_MEN = 6;
    private static final int MOST_THINGS = 30;
    private static final int MOST_MISTS = 10;
    private static final int MOST_FAR = 20;
    private static final int MOST_DAY_TOLD = 999;
    private static final int MOST_HIGH = 99;
    private static final int MOST_STOREYS = 9;
    private static final int MOST_STOREY_HIGH = 20;
    private static final int MOST_COST = 999;
    private static final int MOST_FIGURES = 3;
    private static final int MOST_DAYS = 99;
    private static final int MOST_MOVES = 6;
    private static final int MOST_BUILT = 3;
    private static final int MOST_WEIGHT = 99;
    private static final int MOST_STEPS = 8;
    private static final int MOST_NEEDED = 99;
    private static final int MOST_CLAIMS = 40;
    private static final int TREES_DRAWN = 10;
    private static final long GREATEST_SEED = 2147483647L;
    private static final int IMAGES = 2;

    private static final int BY_ALL = 0;
    private static final int BY_NEAREST = 1;
    private static final int BY_HIGHEST = 2;

    private final Plan plan;
    private final Reader reader;
    private final State now;
    private final State[] images;
    private final Sight sight;
    private final Book book;
    private final Boat boat;
    /** What TOWERS end in, by how many STOREYS the first (rows) and the second (columns) built. */
    private final int[] ends;

    public SeenWaters() {
        plan = new Plan();
        reader = new Reader();
        now = new State();
        images = new State[IMAGES];
        for (int i = 0; i < IMAGES; i++) {
            images[i] = new State();
        }
        sight = new Sight(plan, now);
        book = new Book();
        boat = new Boat();
        ends = new int[(MOST_BUILT + 1) * (MOST_BUILT + 1)];
    }

    // ---- the lake

    public int feed(int n, long bytes) {
        if (n < 1 || n > MOST_AT_ONCE) {
            return OUTSIDE;
        }
        if (reader.length + n > MOST_BYTES) {
            return FULL;
        }
        for (int k = n - 1; k >= 0; k--) {
            reader.append((byte) (bytes >>> (8 * k)));
        }
        return reader.length;
    }

    public int lake() {
        if (!reader.readAll()) {
            return -10 - reader.faultKind;
        }
        plan.copyFrom(reader.draft);
        now.restart(plan);
        book.claims = 0;
        for (int i = 0; i < IMAGES; i++) {
            images[i].kept = false;
        }
        return plan.cells();
    }

    public int fault() {
        return reader.faultAt;
    }

    public int told(int what) {
        switch (what) {
            case 0: return plan.width;
            case 1: return plan.height;
            case 2: return plan.men;
            case 3: return reader.length;
            case 4: return now.rule;
            case 5: return now.today;
            case 6: return plan.farOn(now.today);
            case 7: return book.claims;
            case 8: return plan.storeyHigh;
            case 9: return plan.storeyCost;
            case 10: return countFree();
            default: return OUTSIDE;
        }
    }

    public int cell(int x, int y, int what) {
        if (!plan.hasCell(x, y)) {
            return UNKNOWN;
        }
        int c = plan.numberOf(x, y);
        switch (what) {
            case 0: return now.stands[c];
            case 1: return plan.fish[c];
            case 2:
                sight.lookAll();
                return sight.seers[c];
            case 3:
                sight.lookAll();
                return sight.ownersOf(x, y);
            default: return OUTSIDE;
        }
    }

    public int man(int f, int what) {
        if (!plan.hasMan(f)) {
            return UNKNOWN;
        }
        switch (what) {
            case 0: return plan.places[f];
            case 1: return plan.grounds[f];
            case 2: return now.storeys[f];
            case 3: return sight.eyeOf(f);
            case 4: return now.purses[f];
            case 5: return countSeen(f);
            case 6: return countOwned(f);
            default: return OUTSIDE;
        }
    }

    public int sees(int f, int x, int y) {
        if (!plan.hasMan(f) || !plan.hasCell(x, y)) {
            return UNKNOWN;
        }
        return sight.canSee(f, x, y, plan.farOn(now.today)) ? 1 : 0;
    }

    public int blocker(int f, int x, int y) {
        if (!plan.hasMan(f) || !plan.hasCell(x, y)) {
            return UNKNOWN;
        }
        return sight.firstBlock(f, x, y);
    }

    public int share(int f) {
        if (!plan.hasMan(f)) {
            return UNKNOWN;
        }
        sight.lookAll();
        return sight.shareOf(f);
    }

    public int free(int i) {
        sight.lookAll();
        int left = i;
        for (int y = 0; y < plan.height; y++) {
            for (int x = 0; x < plan.width; x++) {
                if (sight.seers[plan.numberOf(x, y)] != 0) {
                    continue;
                }
                if (left == 0) {
                    return placeOf(x, y);
                }
                left--;
            }
        }
        return NONE;
    }

    // ---- days, what is done

    public int law(int v) {
        if (v < BY_ALL || v > BY_HIGHEST) {
            return OUTSIDE;
        }
        int was = now.rule;
        now.rule = v;
        return was;
    }

    public int build(int f) {
        if (!plan.hasMan(f)) {
            return UNKNOWN;
        }
        if (now.storeys[f] >= MOST_STOREYS) {
            return NOT;
        }
        now.addStorey(f, plan.storeyCost);
        return now.storeys[f];
    }

    public int plant(int x, int y, int t) {
        if (!plan.hasCell(x, y)) {
            return UNKNOWN;
        }
        if (t < 0 || t > MOST_HIGH) {
            return OUTSIDE;
        }
        int c = plan.numberOf(x, y);
        int was = now.stands[c];
        now.stands[c] = t;
        return was;
    }

    public int day(int n) {
        if (n < 1 || n > MOST_DAYS) {
            return OUTSIDE;
        }
        if (plan.cells() == 0) {
            return NOT;
        }
        sight.lookAll();
        sight.countShares();
        for (int k = 0; k < n; k++) {
            now.earn(sight.shares);
            if (turnDay()) {
                sight.countShares();
            }
        }
        return now.today;
    }

    public int drift(int n) {
        if (n < 1 || n > MOST_DAYS) {
            return OUTSIDE;
        }
        if (plan.cells() == 0 || plan.men == 0) {
            return NOT;
        }
        sight.lookAll();
        for (int k = 0; k < n; k++) {
            actByDraws();
            sight.countShares();
            now.earn(sight.shares);
            turnDay();
        }
        return now.today;
    }

    public int begin() {
        int was = now.today;
        now.restart(plan);
        return was;
    }

    // ---- tried

    public int tree(int f, int t, int what) {
        if (!plan.hasMan(f)) {
            return UNKNOWN;
        }
        if (t < 1 || t > MOST_HIGH || what < 0 || what > 2) {
            return OUTSIDE;
        }
        sight.findTree(f, t);
        if (what == 2) {
            return sight.treeShare;
        }
        return what == 0 ? sight.treeX : sight.treeY;
    }

    public int wins(int f) {
        if (!plan.hasMan(f)) {
            return UNKNOWN;
        }
        int was = now.storeys[f];
        if (was >= MOST_STOREYS) {
            return NOT;
        }
        sight.lookAll();
        int without = sight.shareOf(f);
        now.storeys[f] = was + 1;
        sight.lookBy(f);
        int with = sight.shareOf(f);
        now.storeys[f] = was;
        return with - without;
    }

    public int view(int f, int x, int y) {
        if (!plan.hasMan(f) || !plan.hasCell(x, y)) {
            return UNKNOWN;
        }
        int c = plan.numberOf(x, y);
        int was = now.stands[c];
        sight.lookAll();
        int blocked = sight.shareOf(f);
        now.stands[c] = 0;
        sight.lookOver(x, y);
        int open = sight.shareOf(f);
        now.stands[c] = was;
        return open - blocked;
    }

    public int towers(int a, int b, int n, int d, int what) {
        if (!plan.hasMan(a) || !plan.hasMan(b) || a == b) {
            return UNKNOWN;
        }
        if (n < 0 || n > MOST_MOVES || d < 1 || d > MOST_WEIGHT || what < 0 || what > 1) {
            return OUTSIDE;
        }
        int roomA = Math.min((n + 1) / 2, MOST_STOREYS - now.storeys[a]);
        int roomB = Math.min(n / 2, MOST_STOREYS - now.storeys[b]);
        countEnds(a, b, d, roomA, roomB);
        for (int move = n - 1; move > 0; move--) {
            takeMoveBack(move % 2 == 0, roomA, roomB);
        }
        int waits = ends[0];
        boolean builds = roomA > 0 && ends[MOST_BUILT + 1] > waits;
        if (what == 0) {
            return builds ? ends[MOST_BUILT + 1] : waits;
        }
        if (n == 0) {
            return NONE;
        }
        return builds ? 1 : 0;
    }

    public int boat(int f, int n) {
        if (!plan.hasMan(f)) {
            return UNKNOWN;
        }
        if (n < 1 || n > MOST_STEPS) {
            return OUTSIDE;
        }
        sight.lookAll();
        boat.start(plan.width, plan.height);
        for (int y = 0; y < plan.height; y++) {
            for (int x = 0; x < plan.width; x++) {
                boat.putCatch(plan.numberOf(x, y), sight.catchOf(f, x, y));
            }
        }
        return boat.mostFish(plan.places[f], n);
    }

    public int needed(int f) {
        if (!plan.hasMan(f)) {
            return UNKNOWN;
        }
        int lack = sight.eyeNeeded(f) - sight.eyeOf(f);
        if (lack <= 0) {
            return 0;
        }
        int high = Math.max(1, plan.storeyHigh);
        int more = (lack + high - 1) / high;
        return more > MOST_NEEDED ? NONE : more;
    }

    // ---- books, draws, images

    public int write(int f, int x, int y) {
        if (!plan.hasMan(f) || !plan.hasCell(x, y)) {
            return UNKNOWN;
        }
        if (book.claims >= MOST_CLAIMS) {
            return FULL;
        }
        book.add(f, x, y);
        return book.claims;
    }

    public int tear() {
        int had = book.claims;
        book.claims = 0;
        return had;
    }

    public int judge() {
        sight.lookAll();
        for (int i = 0; i < book.claims; i++) {
            int owners = sight.ownersOf(book.xs[i], book.ys[i]);
            if (!holds(owners, book.men[i])) {
                return i;
            }
        }
        return NONE;
    }

    public int seed(int v) {
        if (v < 0) {
            return OUTSIDE;
        }
        int was = now.drawn;
        now.drawn = v;
        return was;
    }

    public int keep(int i) {
        if (i < 0 || i >= IMAGES) {
            return UNKNOWN;
        }
        images[i].copyFrom(now);
        images[i].kept = true;
        return 1;
    }

    public int goBack(int i) {
        if (i < 0 || i >= IMAGES) {
            return UNKNOWN;
        }
        if (!images[i].kept) {
            return NOT;
        }
        now.copyFrom(images[i]);
        return 1;
    }

    // ---- what the calls share

    private static int placeOf(int x, int y) {
        return 100 * x + y;
    }

    private static boolean holds(int set, int k) {
        return (set >> k & 1) != 0;
    }

    private int countFree() {
        sight.lookAll();
        int count = 0;
        for (int c = 0; c < plan.cells(); c++) {
            if (sight.seers[c] == 0) {
                count++;
            }
        }
        return count;
    }

    private int countSeen(int f) {
        sight.lookAll();
        int count = 0;
        for (int c = 0; c < plan.cells(); c++) {
            if (holds(sight.seers[c], f)) {
                count++;
            }
        }
        return count;
    }

    private int countOwned(int f) {
        sight.lookAll();
        int count = 0;
        for (int y = 0; y < plan.height; y++) {
            for (int x = 0; x < plan.width; x++) {
                if (holds(sight.ownersOf(x, y), f)) {
                    count++;
                }
            }
        }
        return count;
    }

    /** Looks again only where the next DAY's mist differs: true if it does. */
    private boolean turnDay() {
        int before = plan.farOn(now.today);
        now.today++;
        if (plan.farOn(now.today) == before) {
            return false;
        }
        sight.lookAll();
        return true;
    }

    private void actByDraws() {
        int f = now.draw(plan.men);
        if (now.purses[f] >= plan.storeyCost && now.storeys[f] < MOST_STOREYS) {
            now.addStorey(f, plan.storeyCost);
            sight.lookBy(f);
            return;
        }
        int c = now.draw(plan.cells());
        now.stands[c] = now.draw(TREES_DRAWN);
        int width = Math.max(1, plan.width);
        sight.lookOver(c % width, c / width);
    }

    private void countEnds(int a, int b, int d, int roomA, int roomB) {
        int wasA = now.storeys[a];
        int wasB = now.storeys[b];
        sight.lookAll();
        for (int i = 0; i <= roomA; i++) {
            now.storeys[a] = wasA + i;
            sight.lookBy(a);
            for (int j = 0; j <= roomB; j++) {
                now.storeys[b] = wasB + j;
                sight.lookBy(b);
                int ahead = sight.shareOf(a) - sight.shareOf(b);
                ends[i * (MOST_BUILT + 1) + j] = ahead * d - (i - j) * plan.storeyCost;
            }
        }
        now.storeys[a] = wasA;
        now.storeys[b] = wasB;
    }

    /**
     * From what the play is worth after a move to what it is worth before it. It is done in place:
     * rising, since each entry needs the next one as it was.
     */
    private void takeMoveBack(boolean firstMoves, int roomA, int roomB) {
        int row = MOST_BUILT + 1;
        for (int i = 0; i <= roomA; i++) {
            for (int j = 0; j <= roomB; j++) {
                int at = i * row + j;
                if (firstMoves && i < roomA) {
                    ends[at] = Math.max(ends[at], ends[at + row]);
                }
                if (!firstMoves && j < roomB) {
                    ends[at] = Math.min(ends[at], ends[at + 1]);
                }
            }
        }
    }

    /** What a text tells of a lake; play does not change it. */
    private static final class Plan {
        int width;
        int height;
        int men;
        int mists;
        int storeyHigh;
        int storeyCost;
        final int[] places = new int[MOST_MEN];
        final int[] grounds = new int[MOST_MEN];
        final int[] storeys = new int[MOST_MEN];
        final int[] stands = new int[MOST_CELLS];
        final int[] fish = new int[MOST_CELLS];
        final int[] mistFirst = new int[MOST_MISTS];
        final int[] mistLast = new int[MOST_MISTS];
        final int[] mistFar = new int[MOST_MISTS];

        Plan() {
            clear();
        }

        void clear() {
            width = 0;
            height = 0;
            men = 0;
            mists = 0;
            storeyHigh = 3;
            storeyCost = 100;
            for (int c = 0; c < MOST_CELLS; c++) {
                stands[c] = 0;
                fish[c] = 1;
            }
        }

        void copyFrom(Plan other) {
            width = other.width;
            height = other.height;
            men = other.men;
            mists = other.mists;
            storeyHigh = other.storeyHigh;
            storeyCost = other.storeyCost;
            System.arraycopy(other.places, 0, places, 0, MOST_MEN);
            System.arraycopy(other.grounds, 0, grounds, 0, MOST_MEN);
            System.arraycopy(other.storeys, 0, storeys, 0, MOST_MEN);
            System.arraycopy(other.stands, 0, stands, 0, MOST_CELLS);
            System.arraycopy(other.fish, 0, fish, 0, MOST_CELLS);
            System.arraycopy(other.mistFirst, 0, mistFirst, 0, MOST_MISTS);
            System.arraycopy(other.mistLast, 0, mistLast, 0, MOST_MISTS);
            System.arraycopy(other.mistFar, 0, mistFar, 0, MOST_MISTS);
        }

        void addDoor(int place, int ground, int storeysTold) {
            if (men < MOST_MEN) {
                places[men] = place;
                grounds[men] = ground;
                storeys[men] = storeysTold;
                men++;
            }
        }

        void addMist(int first, int last, int far) {
            if (mists < MOST_MISTS) {
                mistFirst[mists] = first;
                mistLast[mists] = last;
                mistFar[mists] = far;
                mists++;
            }
        }

        int cells() {
            return width * height;
        }

        boolean hasCell(int x, int y) {
            return x >= 0 && x < width && y >= 0 && y < height;
        }

        boolean hasMan(int f) {
            return f >= 0 && f < men;
        }

        int numberOf(int x, int y) {
            return y * width + x;
        }

        int farOn(int someDay) {
            int far = NONE;
            for (int i = 0; i < mists; i++) {
                boolean lies = someDay >= mistFirst[i] && someDay <= mistLast[i];
                if (lies && (far == NONE || mistFar[i] < far)) {
                    far = mistFar[i];
                }
            }
            return far;
        }
    }

    /** What play changes, and what an IMAGE keeps. */
    private static final class State {
        int today;
        int rule;
        int drawn;
        boolean kept;
        final int[] storeys = new int[MOST_MEN];
        final int[] purses = new int[MOST_MEN];
        final int[] stands = new int[MOST_CELLS];

        void restart(Plan plan) {
            today = 0;
            for (int m = 0; m < MOST_MEN; m++) {
                purses[m] = 0;
            }
            System.arraycopy(plan.storeys, 0, storeys, 0, MOST_MEN);
            System.arraycopy(plan.stands, 0, stands, 0, MOST_CELLS);
        }

        void copyFrom(State other) {
            today = other.today;
            rule = other.rule;
            drawn = other.drawn;
            System.arraycopy(other.storeys, 0, storeys, 0, MOST_MEN);
            System.arraycopy(other.purses, 0, purses, 0, MOST_MEN);
            System.arraycopy(other.stands, 0, stands, 0, MOST_CELLS);
        }

        void addStorey(int m, int cost) {
            storeys[m]++;
            purses[m] -= cost;
        }

        void earn(int[] shares) {
            for (int m = 0; m < MOST_MEN; m++) {
                purses[m] += shares[m];
            }
        }

        int draw(int n) {
            drawn = (int) ((drawn * 1103515245L + 12345L) & GREATEST_SEED);
            return n < 1 ? 0 : drawn / 65536 % n;
        }
    }

    /** THE TEXT, and how it is read into a draft, so that a FAULT leaves the lake as it was. */
    private static final class Reader {
        private static final int LAKE = 0;
        private static final int DOOR = 1;
        private static final int STAND = 2;
        private static final int FISH = 3;
        private static final int MIST = 4;
        private static final int STOREY = 5;
        private static final int KINDS = 6;

        private static final int MISPLACED = 1;
        private static final int OUT_OF_BOUNDS = 2;
        private static final int TOO_MANY = 3;
        private static final int AGAIN = 4;

        final Plan draft = new Plan();
        int length;
        int faultKind;
        int faultAt = NONE;
        private final byte[] bytes = new byte[MOST_BYTES];
        private final int[] numbers = new int[3];
        private final int[] counts = new int[KINDS];
        private final boolean[] fishTold = new boolean[MOST_CELLS];
        private int at;

        void append(byte b) {
            if (length < MOST_BYTES) {
                bytes[length] = b;
                length++;
            }
        }

        /** Whether THE TEXT has no FAULT; it is empty after it. */
        boolean readAll() {
            restart();
            skipBlanks();
            // A statement takes a byte at least, so that there are never more rounds than bytes.
            for (int round = 0; round < MOST_BYTES && faultKind == 0 && at < length; round++) {
                readStatement();
                skipBlanks();
            }
            length = 0;
            return faultKind == 0;
        }

        private void restart() {
            draft.clear();
            at = 0;
            faultKind = 0;
            faultAt = NONE;
            for (int kind = 0; kind < KINDS; kind++) {
                counts[kind] = 0;
            }
            for (int c = 0; c < MOST_CELLS; c++) {
                fishTold[c] = false;
            }
        }

        private void fail(int kind, int place) {
            faultKind = kind;
            faultAt = place;
        }

        private void skipBlanks() {
            while (at < length && bytes[at] == ' ') {
                at++;
            }
        }

        private void readStatement() {
            int from = at;
            int kind = readKind();
            if (kind == NONE || (kind != LAKE && counts[LAKE] == 0)) {
                fail(MISPLACED, from);
                return;
            }
            if (counts[kind] >= timesOf(kind)) {
                fail(TOO_MANY, from);
                return;
            }
            counts[kind]++;
            int parts = partsOf(kind);
            for (int i = 0; i < parts && faultKind == 0; i++) {
                readNumber(kind, i);
            }
            if (faultKind == 0) {
                readEnd();
            }
            if (faultKind == 0) {
                put(kind);
            }
        }

        private int readKind() {
            int from = at;
            while (at < length && bytes[at] >= 'a' && bytes[at] <= 'z') {
                at++;
            }
            for (int kind = 0; kind < KINDS; kind++) {
                if (isWord(from, at, wordOf(kind))) {
                    return kind;
                }
            }
            return NONE;
        }

        private boolean isWord(int from, int to, String word) {
            if (to - from != word.length()) {
                return false;
            }
            for (int i = 0; i < word.length(); i++) {
                if (bytes[from + i] != word.charAt(i)) {
                    return false;
                }
            }
            return true;
        }

        private void readNumber(int kind, int part) {
            skipBlanks();
            int from = at;
            int value = 0;
            while (at < length && bytes[at] >= '0' && bytes[at] <= '9') {
                if (at - from < MOST_FIGURES) {
                    value = value * 10 + bytes[at] - '0';
                }
                at++;
            }
            if (at == from) {
                fail(MISPLACED, from);
            } else if (at - from > MOST_FIGURES || value < leastOf(kind, part) || value > mostOf(kind, part)) {
                fail(OUT_OF_BOUNDS, from);
            } else if (clashes(kind, part, value)) {
                fail(AGAIN, from);
            } else {
                numbers[part] = value;
            }
        }

        private void readEnd() {
            skipBlanks();
            if (at < length && bytes[at] == ';') {
                at++;
            } else {
                fail(MISPLACED, at);
            }
        }

        /** A CELL told twice is known at its Y, a mist that ends ahead of its beginning at its B. */
        private boolean clashes(int kind, int part, int value) {
            if (part != 1) {
                return false;
            }
            switch (kind) {
                case STAND: return draft.stands[draft.numberOf(numbers[0], value)] != 0;
                case FISH: return fishTold[draft.numberOf(numbers[0], value)];
                case MIST: return value < numbers[0];
                default: return false;
            }
        }

        private void put(int kind) {
            switch (kind) {
                case LAKE:
                    draft.width = numbers[0];
                    draft.height = numbers[1];
                    break;
                case DOOR:
                    draft.addDoor(numbers[0], numbers[1], numbers[2]);
                    break;
                case STAND:
                    draft.stands[draft.numberOf(numbers[0], numbers[1])] = numbers[2];
                    break;
                case FISH:
                    int c = draft.numberOf(numbers[0], numbers[1]);
                    draft.fish[c] = numbers[2];
                    fishTold[c] = true;
                    break;
                case MIST:
                    draft.addMist(numbers[0], numbers[1], numbers[2]);
                    break;
                default:
                    draft.storeyHigh = numbers[0];
                    draft.storeyCost = numbers[1];
            }
        }

        private static String wordOf(int kind) {
            switch (kind) {
                case LAKE: return "lake";
                case DOOR: return "door";
                case STAND: return "stand";
                case FISH: return "fish";
                case MIST: return "mist";
                default: return "storey";
            }
        }

        private static int partsOf(int kind) {
            return kind == LAKE || kind == STOREY ? 2 : 3;
        }

        private static int timesOf(int kind) {
            switch (kind) {
                case DOOR: return MOST_MEN;
                case STAND:
                case FISH: return MOST_THINGS;
                case MIST: return MOST_MISTS;
                default: return 1;
            }
        }

        private static int leastOf(int kind, int part) {
            boolean sides = kind == LAKE;
            boolean height = (kind == STAND && part == 2) || (kind == STOREY && part == 0);
            return sides || height ? 1 : 0;
        }

        private int mostOf(int kind, int part) {
            switch (kind) {
                case LAKE: return part == 0 ? MOST_SIDE : Math.min(MOST_SIDE, MOST_CELLS / Math.max(1, numbers[0]));
                case DOOR: return part == 0 ? draft.width - 1 : part == 1 ? MOST_HIGH : MOST_STOREYS;
                case MIST: return part == 2 ? MOST_FAR : MOST_DAY_TOLD;
                case STOREY: return part == 0 ? MOST_STOREY_HIGH : MOST_COST;
                default: return part == 0 ? draft.width - 1 : part == 1 ? draft.height - 1 : MOST_HIGH;
            }
        }
    }

    /** Who SEES and owns what, as things are when it looks. */
    private static final class Sight {
        private final Plan plan;
        private final State now;
        /** The SET of those who SEE a CELL, as of the latest look. */
        final int[] seers = new int[MOST_CELLS];
        final int[] shares = new int[MOST_MEN];
        int treeX;
        int treeY;
        int treeShare;
        private final int[] seersBefore = new int[MOST_CELLS];

        Sight(Plan plan, State now) {
            this.plan = plan;
            this.now = now;
        }

        int eyeOf(int m) {
            return plan.grounds[m] + now.storeys[m] * plan.storeyHigh + 1;
        }

        /**
         * The X of the line over row z. It lies between two shore places, so that nothing here is
         * below 0 and the cut division gives the nearest, of two as near the greater.
         */
        private int lineX(int m, int x, int y, int z) {
            int place = plan.places[m];
            int rows = y + 1;
            int along = place * rows + (x - place) * (z + 1);
            return (2 * along + rows) / (2 * rows);
        }

        int firstBlock(int m, int x, int y) {
            int eye = eyeOf(m);
            for (int z = 0; z < y; z++) {
                int over = lineX(m, x, y, z);
                // Both sides times (y and 1), to compare exactly.
                if (now.stands[plan.numberOf(over, z)] * (y + 1) > eye * (y - z)) {
                    return placeOf(over, z);
                }
            }
            return NONE;
        }

        private boolean inReach(int m, int x, int y, int far) {
            return far == NONE || Math.max(Math.abs(x - plan.places[m]), y + 1) <= far;
        }

        boolean canSee(int m, int x, int y, int far) {
            return inReach(m, x, y, far) && firstBlock(m, x, y) == NONE;
        }

        private void note(int m, int x, int y, boolean seen) {
            int c = plan.numberOf(x, y);
            if (seen) {
                seers[c] |= 1 << m;
            } else {
                seers[c] &= ~(1 << m);
            }
        }

        void lookBy(int m) {
            int far = plan.farOn(now.today);
            for (int y = 0; y < plan.height; y++) {
                for (int x = 0; x < plan.width; x++) {
                    note(m, x, y, canSee(m, x, y, far));
                }
            }
        }

        void lookAll() {
            for (int c = 0; c < MOST_CELLS; c++) {
                seers[c] = 0;
            }
            for (int m = 0; m < plan.men; m++) {
                lookBy(m);
            }
        }

        /** Looks again along the lines that go over a CELL: no other view hangs on what stands there. */
        void lookOver(int overX, int overY) {
            int far = plan.farOn(now.today);
            for (int m = 0; m < plan.men; m++) {
                for (int y = overY + 1; y < plan.height; y++) {
                    for (int x = 0; x < plan.width; x++) {
                        if (lineX(m, x, y, overY) == overX) {
                            note(m, x, y, canSee(m, x, y, far));
                        }
                    }
                }
            }
        }

        int ownersOf(int x, int y) {
            int set = seers[plan.numberOf(x, y)];
            if (set == 0 || now.rule == BY_ALL) {
                return set;
            }
            return 1 << (now.rule == BY_NEAREST ? nearestOf(set, x, y) : highestOf(set));
        }

        private int nearestOf(int set, int x, int y) {
            int nearest = NONE;
            int least = 0;
            for (int m = 0; m < plan.men; m++) {
                int aside = x - plan.places[m];
                int far = aside * aside + (y + 1) * (y + 1);
                if (holds(set, m) && (nearest == NONE || far < least)) {
                    least = far;
                    nearest = m;
                }
            }
            return Math.max(0, nearest);
        }

        private int highestOf(int set) {
            int highest = 0;
            int most = 0;
            for (int m = 0; m < plan.men; m++) {
                if (holds(set, m) && eyeOf(m) > most) {
                    most = eyeOf(m);
                    highest = m;
                }
            }
            return highest;
        }

        /** What each OWNER has of a CELL's FISH. */
        private int partOf(int owners, int x, int y) {
            int count = Integer.bitCount(owners);
            return count == 0 ? 0 : plan.fish[plan.numberOf(x, y)] / count;
        }

        /** What m has of a CELL's FISH; NONE: the CELL is not its own. */
        int catchOf(int m, int x, int y) {
            int owners = ownersOf(x, y);
            return holds(owners, m) ? partOf(owners, x, y) : NONE;
        }

        int shareOf(int m) {
            int sum = 0;
            for (int y = 0; y < plan.height; y++) {
                for (int x = 0; x < plan.width; x++) {
                    sum += Math.max(0, catchOf(m, x, y));
                }
            }
            return sum;
        }

        void countShares() {
            for (int m = 0; m < MOST_MEN; m++) {
                shares[m] = 0;
            }
            for (int y = 0; y < plan.height; y++) {
                for (int x = 0; x < plan.width; x++) {
                    addParts(ownersOf(x, y), x, y);
                }
            }
        }

        private void addParts(int owners, int x, int y) {
            int part = partOf(owners, x, y);
            for (int m = 0; m < plan.men; m++) {
                if (holds(owners, m)) {
                    shares[m] += part;
                }
            }
        }

        void findTree(int m, int high) {
            lookAll();
            System.arraycopy(seers, 0, seersBefore, 0, MOST_CELLS);
            treeShare = NONE;
            for (int y = 0; y < plan.height; y++) {
                for (int x = 0; x < plan.width; x++) {
                    tryTree(m, x, y, high);
                }
            }
        }

        private void tryTree(int m, int x, int y, int high) {
            int c = plan.numberOf(x, y);
            int was = now.stands[c];
            now.stands[c] = high;
            lookOver(x, y);
            int sum = shareOf(m);
            if (sum > treeShare) {
                treeShare = sum;
                treeX = x;
                treeY = y;
            }
            now.stands[c] = was;
            System.arraycopy(seersBefore, 0, seers, 0, MOST_CELLS);
        }

        /** The least EYE that nothing blocks from any CELL that mist lets m see. */
        int eyeNeeded(int m) {
            int far = plan.farOn(now.today);
            int most = 0;
            for (int y = 0; y < plan.height; y++) {
                for (int x = 0; x < plan.width; x++) {
                    if (inReach(m, x, y, far)) {
                        most = Math.max(most, eyeNeededFor(m, x, y));
                    }
                }
            }
            return most;
        }

        private int eyeNeededFor(int m, int x, int y) {
            int most = 0;
            for (int z = 0; z < y; z++) {
                int high = now.stands[plan.numberOf(lineX(m, x, y, z), z)];
                int left = y - z;
                most = Math.max(most, (high * (y + 1) + left - 1) / left);
            }
            return most;
        }
    }

    /** THE BOOK. */
    private static final class Book {
        int claims;
        final int[] men = new int[MOST_CLAIMS];
        final int[] xs = new int[MOST_CLAIMS];
        final int[] ys = new int[MOST_CLAIMS];

        void add(int m, int x, int y) {
            if (claims < MOST_CLAIMS) {
                men[claims] = m;
                xs[claims] = x;
                ys[claims] = y;
                claims++;
            }
        }
    }

    /** A BOAT on one FISHERMAN's own water. */
    private static final class Boat {
        /** What there is to fish in a CELL; NONE: the boat may not go there. */
        private final int[] catches = new int[MOST_CELLS];
        private int width;
        private int height;
        private int richest;
        private int best;

        void start(int lakeWidth, int lakeHeight) {
            width = lakeWidth;
            height = lakeHeight;
            richest = 0;
        }

        void putCatch(int c, int fish) {
            if (c >= 0 && c < MOST_CELLS) {
                catches[c] = fish;
                richest = Math.max(richest, fish);
            }
        }

        int mostFish(int place, int steps) {
            best = NONE;
            sail(place, 0, Math.min(steps, MOST_STEPS), 0);
            return best;
        }

        private void sail(int x, int y, int left, int fished) {
            if (left < 1 || x < 0 || x >= width || y < 0 || y >= height) {
                return;
            }
            int c = y * width + x;
            int here = catches[c];
            if (here == NONE) {
                return;
            }
            int sum = fished + here;
            best = Math.max(best, sum);
            // Even the richest CELL at each step that is left would not do better.
            if (sum + (left - 1) * richest <= best) {
                return;
            }
            catches[c] = 0;
            sail(x - 1, y, left - 1, sum);
            sail(x + 1, y, left - 1, sum);
            sail(x, y - 1, left - 1, sum);
            sail(x, y + 1, left - 1, sum);
            catches[c] = here;
        }
    }
}
