/**
 * Twists of a skin with handles and one rim. What each call answers is told by the numbered
 * promises of the document; words in capitals below are the document's own.
 */
public final class SkinTwists {
    public static final int NONE = -1, UNKNOWN = -1001, OUTSIDE = -1002, NOT = -1003, FULL = -1004, LARGE = -1005;

    private static final int MOST_HANDLES = 3;
    private static final int MOST_LETTERS = 2 * MOST_HANDLES;
    private static final int MOST_RINGS = 12;
    private static final int MOST_IN_RING = 60;
    private static final int MOST_IN_ROW = 400;
    private static final int MOST_PLANS = 8;
    private static final int MOST_TWISTS = 60;
    private static final int MOST_CODES = 2 * (3 * MOST_HANDLES - 1);
    private static final int MOST_BYTES = 120;
    private static final int MOST_TURNS = 5;
    private static final int NO_TURNS = 99;
    private static final int MOST_TIMES = 24;
    private static final int MOST_SORT_TIMES = 12;
    private static final int MOST_SOUGHT = 3;

    private final Ring[] rings = new Ring[MOST_RINGS];
    private final Plan[] plans = new Plan[MOST_PLANS];
    private final Row draft = new Row(MOST_IN_RING);
    private final Twister twister = new Twister();
    private final Meetings meetings = new Meetings();
    private final Images images = new Images(twister);
    private final Search search = new Search(twister, images);
    private final TextReader reader = new TextReader();
    private final Row work = new Row(MOST_IN_ROW);
    private final Plan left = new Plan();
    private final Plan right = new Plan();
    private int handles;
    private int ringCount;

    public SkinTwists() {
        for (int r = 0; r < MOST_RINGS; r++) {
            rings[r] = new Ring();
        }
        for (int p = 0; p < MOST_PLANS; p++) {
            plans[p] = new Plan();
        }
        layOut(2);
    }

    // ---- the skin, rings

    public int skin(int g) {
        if (g < 1 || g > MOST_HANDLES) {
            return OUTSIDE;
        }
        layOut(g);
        return 2 * g;
    }

    public int letter(int x) {
        if (x == 0 || x < -2 * handles || x > 2 * handles) {
            return OUTSIDE;
        }
        if (draft.size >= MOST_IN_RING) {
            return FULL;
        }
        draft.push(x);
        return draft.size;
    }

    public int ring() {
        if (draft.size == 0) {
            return NOT;
        }
        if (ringCount >= MOST_RINGS) {
            return FULL;
        }
        rings[ringCount].become(draft, meetings);
        draft.size = 0;
        ringCount++;
        return ringCount - 1;
    }

    public int told(int r, int what) {
        if (!isRing(r)) {
            return UNKNOWN;
        }
        switch (what) {
            case 0:
                return rings[r].row.size;
            case 1:
                return oneIf(rings[r].power);
            case 2:
                return rings[r].self;
            case 3:
                return oneIf(rings[r].isSimple());
            default:
                return OUTSIDE;
        }
    }

    public int at(int r, int i) {
        if (!isRing(r)) {
            return UNKNOWN;
        }
        Row row = rings[r].row;
        return i >= 0 && i < row.size ? row.cells[i] : NONE;
    }

    public int meets(int r, int s) {
        if (!isRing(r) || !isRing(s)) {
            return UNKNOWN;
        }
        if (rings[r].power || rings[s].power) {
            return NOT;
        }
        return meetings.between(rings[r].row, rings[s].row);
    }

    public int one(int r, int s) {
        if (!isRing(r) || !isRing(s)) {
            return UNKNOWN;
        }
        return oneIf(rings[r].row.isOneWith(rings[s].row));
    }

    public int heap(int set) {
        // a negative number has bit 31, and there is no such ring
        if (set < 0 || set >> ringCount != 0) {
            return UNKNOWN;
        }
        for (int a = 0; a < ringCount; a++) {
            if ((set >> a & 1) != 0) {
                int bar = firstBarring(set, a);
                if (bar != NONE) {
                    return 13 * a + bar;
                }
            }
        }
        return NONE;
    }

    public int drop() {
        if (ringCount == 0) {
            return NOT;
        }
        ringCount--;
        return ringCount;
    }

    public int count(int what) {
        switch (what) {
            case 0:
                return handles;
            case 1:
                return ringCount;
            case 2:
                return draft.size;
            case 3:
                return twister.twists;
            case 4:
                return reader.size;
            default:
                return OUTSIDE;
        }
    }

    // ---- plans

    public int feed(int n, long bytes) {
        if (n < 1 || n > 8) {
            return OUTSIDE;
        }
        if (reader.size + n > MOST_BYTES) {
            return FULL;
        }
        for (int k = n - 1; k >= 0; k--) {
            reader.add((int) (bytes >> 8 * k & 255));
        }
        return reader.size;
    }

    public int read(int p) {
        if (!isPlan(p)) {
            return UNKNOWN;
        }
        int kind = reader.understand(handles);
        reader.size = 0;
        if (kind != 0) {
            return -10 - kind;
        }
        plans[p].copy(reader.plan);
        return plans[p].size;
    }

    public int fault() {
        return reader.faultByte;
    }

    public int twist(int p, int i) {
        return isPlan(p) ? plans[p].codeOrSize(i) : UNKNOWN;
    }

    public int chain(int r, int p, int q) {
        if (!isPlan(r) || !isPlan(p) || !isPlan(q)) {
            return UNKNOWN;
        }
        if (plans[p].size + plans[q].size > MOST_TWISTS) {
            return FULL;
        }
        left.copy(plans[p]);
        left.addAll(plans[q]);
        plans[r].copy(left);
        return plans[r].size;
    }

    public int turn(int r, int p) {
        if (!isPlan(r) || !isPlan(p)) {
            return UNKNOWN;
        }
        left.becomeReversed(plans[p]);
        plans[r].copy(left);
        return plans[r].size;
    }

    public int image(int p, int x, int i) {
        if (!isPlan(p)) {
            return UNKNOWN;
        }
        if (!isLetter(x)) {
            return OUTSIDE;
        }
        work.becomeLetter(x);
        if (!twister.doPlan(plans[p], work)) {
            return LARGE;
        }
        if (i == NONE) {
            return work.size;
        }
        return i >= 0 && i < work.size ? work.cells[i] : 0;
    }

    public int carried(int p, int r, int what) {
        if (!isPlan(p) || !isRing(r) || what != NONE && !isRing(what)) {
            return UNKNOWN;
        }
        if (!carryToWork(p, r)) {
            return LARGE;
        }
        return what == NONE ? work.size : oneIf(work.isOneWith(rings[what].row));
    }

    public int meetsThen(int p, int r, int s) {
        if (!isPlan(p) || !isRing(r) || !isRing(s)) {
            return UNKNOWN;
        }
        if (rings[r].power || rings[s].power) {
            return NOT;
        }
        if (!carryToWork(p, r)) {
            return LARGE;
        }
        return meetings.between(work, rings[s].row);
    }

    // ---- what plans do

    public int same(int p, int q) {
        if (!isPlan(p) || !isPlan(q)) {
            return UNKNOWN;
        }
        return firstUnlike(plans[p], plans[q]);
    }

    public int turns(int p) {
        if (!isPlan(p)) {
            return UNKNOWN;
        }
        images.begin(handles);
        return images.doPlan(plans[p]) ? images.fullTurns(work) : LARGE;
    }

    public int order(int p, int n) {
        if (!isPlan(p)) {
            return UNKNOWN;
        }
        if (n < 1 || n > MOST_TIMES) {
            return OUTSIDE;
        }
        images.begin(handles);
        for (int k = 1; k <= n; k++) {
            if (!images.doPlan(plans[p])) {
                return LARGE;
            }
            if (images.fullTurns(work) != NO_TURNS) {
                return k;
            }
        }
        return NONE;
    }

    public int table(int p, int x, int y) {
        if (!isPlan(p)) {
            return UNKNOWN;
        }
        if (!isLetter(x) || !isLetter(y)) {
            return OUTSIDE;
        }
        work.becomeLetter(x);
        return twister.doPlan(plans[p], work) ? work.balanceOf(y) : LARGE;
    }

    public long character(int p, int k) {
        if (!isPlan(p)) {
            return UNKNOWN;
        }
        if (k < 0 || k > 2 * handles) {
            return OUTSIDE;
        }
        images.begin(handles);
        return images.doPlan(plans[p]) ? images.cornerSum(k) : LARGE;
    }

    public int length(int p, int k) {
        if (!isPlan(p)) {
            return UNKNOWN;
        }
        if (k < 0 || k > MOST_TIMES) {
            return OUTSIDE;
        }
        images.begin(handles);
        for (int time = 0; time < k; time++) {
            if (!images.doPlan(plans[p])) {
                return LARGE;
            }
        }
        return images.lettersTogether();
    }

    public int sort(int p, int n) {
        if (!isPlan(p)) {
            return UNKNOWN;
        }
        if (n < 1 || n > MOST_SORT_TIMES) {
            return OUTSIDE;
        }
        boolean rising = true;
        int before = 0;
        images.begin(handles);
        for (int k = 1; k <= n; k++) {
            if (!images.doPlan(plans[p])) {
                return LARGE;
            }
            if (images.fullTurns(work) != NO_TURNS) {
                return 0;
            }
            int now = images.lettersTogether();
            rising = rising && now > before;
            before = now;
        }
        if (keepsSomeRing(plans[p], n)) {
            return 1;
        }
        return rising ? 2 : 3;
    }

    public int law(int t, int u) {
        if (!isTwist(t) || !isTwist(u)) {
            return UNKNOWN;
        }
        left.size = 0;
        left.add(2 * t);
        left.add(2 * u);
        right.size = 0;
        right.add(2 * u);
        right.add(2 * t);
        if (firstUnlike(left, right) == NONE) {
            return 0;
        }
        left.add(2 * t);
        right.add(2 * u);
        return firstUnlike(left, right) == NONE ? 1 : 2;
    }

    public int carry(int r, int s, int n, int i) {
        if (!isRing(r) || !isRing(s)) {
            return UNKNOWN;
        }
        if (!isSearch(n, i)) {
            return OUTSIDE;
        }
        return search.forCarrying(rings[r].row, rings[s].row, n, left) ? left.codeOrSize(i) : NONE;
    }

    public int fewest(int p, int n, int i) {
        if (!isPlan(p)) {
            return UNKNOWN;
        }
        if (!isSearch(n, i)) {
            return OUTSIDE;
        }
        images.begin(handles);
        if (!images.doPlan(plans[p])) {
            return LARGE;
        }
        return search.forImages(n, left) ? left.codeOrSize(i) : NONE;
    }

    // ---- what the calls share

    // The draft goes with the old skin: its letters might be none of the new one.
    private void layOut(int g) {
        handles = g;
        ringCount = 0;
        draft.size = 0;
        for (int p = 0; p < MOST_PLANS; p++) {
            plans[p].size = 0;
        }
        twister.layOut(g);
    }

    private boolean isRing(int r) {
        return r >= 0 && r < ringCount && r < MOST_RINGS;
    }

    private static boolean isPlan(int p) {
        return p >= 0 && p < MOST_PLANS;
    }

    private boolean isTwist(int t) {
        return t >= 0 && t < twister.twists;
    }

    private boolean isLetter(int x) {
        return x >= 1 && x <= 2 * handles;
    }

    private static boolean isSearch(int n, int i) {
        return n >= 0 && n <= MOST_SOUGHT && i >= NONE && i < MOST_SOUGHT;
    }

    private static int oneIf(boolean yes) {
        return yes ? 1 : 0;
    }

    /** The first ring of the set, from ring a on, that with a bars the set from being a HEAP; NONE. */
    private int firstBarring(int set, int a) {
        if (!rings[a].isSimple()) {
            return a;
        }
        Row row = rings[a].row;
        for (int b = a + 1; b < ringCount; b++) {
            if ((set >> b & 1) != 0 && rings[b].isSimple()
                    && (row.isOneWith(rings[b].row) || meetings.between(row, rings[b].row) != 0)) {
                return b;
            }
        }
        return NONE;
    }

    /** Puts the ring as the plan carries it into the work row; false if that is LARGE. */
    private boolean carryToWork(int p, int r) {
        work.copy(rings[r].row);
        if (!twister.doPlan(plans[p], work)) {
            return false;
        }
        work.close();
        return true;
    }

    /** The first letter that two plans do not treat alike, NONE, or LARGE. */
    private int firstUnlike(Plan one, Plan other) {
        images.begin(handles);
        if (!images.doPlan(one)) {
            return LARGE;
        }
        int first = NONE;
        for (int x = 1; x <= 2 * handles; x++) {
            work.becomeLetter(x);
            // a later letter may still be LARGE, and a refusal comes ahead of an answer
            if (!twister.doPlan(other, work)) {
                return LARGE;
            }
            if (first == NONE && !work.isLike(images.rows[x - 1])) {
                first = x;
            }
        }
        return first;
    }

    private boolean keepsSomeRing(Plan plan, int n) {
        for (int r = 0; r < ringCount; r++) {
            if (rings[r].isSimple() && keepsRing(plan, n, rings[r].row)) {
                return true;
            }
        }
        return false;
    }

    private boolean keepsRing(Plan plan, int n, Row row) {
        work.copy(row);
        for (int k = 1; k <= n; k++) {
            // the rows on the way to a later time include these, so it would be LARGE as well
            if (!twister.doPlan(plan, work)) {
                return false;
            }
            if (work.isOneWith(row)) {
                return true;
            }
        }
        return false;
    }

    /** A CLEAN row of letters. */
    static final class Row {
        final int[] cells;
        int size;

        Row(int room) {
            cells = new int[Math.max(1, room)];
        }

        /** Keeps the row CLEAN: a letter behind its OPPOSITE takes that out. */
        void push(int letter) {
            if (size > 0 && cells[size - 1] == -letter) {
                size--;
            } else if (size < cells.length) {
                cells[size] = letter;
                size++;
            }
        }

        void becomeLetter(int letter) {
            cells[0] = letter;
            size = 1;
        }

        void copy(Row other) {
            size = Math.min(other.size, cells.length);
            System.arraycopy(other.cells, 0, cells, 0, size);
        }

        void becomeBack(Row other) {
            size = Math.min(other.size, cells.length);
            for (int k = 0; k < size; k++) {
                cells[k] = -other.cells[size - 1 - k];
            }
        }

        /** How many letters go from each end when the row is closed. */
        private int looseEnds() {
            int loose = 0;
            while (loose < size / 2 && cells[loose] == -cells[size - 1 - loose]) {
                loose++;
            }
            return loose;
        }

        int closedSize() {
            return size - 2 * looseEnds();
        }

        void close() {
            int loose = looseEnds();
            size -= 2 * loose;
            System.arraycopy(cells, loose, cells, 0, size);
        }

        boolean isLike(Row other) {
            if (size != other.size) {
                return false;
            }
            for (int k = 0; k < size; k++) {
                if (cells[k] != other.cells[k]) {
                    return false;
                }
            }
            return true;
        }

        /** Whether this row, once closed, is ONE with a ring. */
        boolean isOneWith(Row ring) {
            int loose = looseEnds();
            if (size - 2 * loose != ring.size) {
                return false;
            }
            for (int start = 0; start < ring.size; start++) {
                if (runsAlong(loose, ring, start) || runsAgainst(loose, ring, start)) {
                    return true;
                }
            }
            return false;
        }

        private boolean runsAlong(int loose, Row ring, int start) {
            int place = start;
            for (int k = 0; k < ring.size; k++) {
                if (cells[loose + k] != ring.cells[place]) {
                    return false;
                }
                place = place + 1 == ring.size ? 0 : place + 1;
            }
            return true;
        }

        private boolean runsAgainst(int loose, Row ring, int start) {
            int place = start;
            for (int k = 0; k < ring.size; k++) {
                if (cells[loose + k] != -ring.cells[place]) {
                    return false;
                }
                place = place == 0 ? ring.size - 1 : place - 1;
            }
            return true;
        }

        boolean isPower() {
            for (int part = 1; part <= size / 2; part++) {
                if (size % part == 0 && repeats(part)) {
                    return true;
                }
            }
            return false;
        }

        private boolean repeats(int part) {
            for (int k = part; k < size; k++) {
                if (cells[k] != cells[k - part]) {
                    return false;
                }
            }
            return true;
        }

        /** How often a letter stands here, less its OPPOSITE. */
        int balanceOf(int letter) {
            int sum = 0;
            for (int k = 0; k < size; k++) {
                if (cells[k] == letter) {
                    sum++;
                } else if (cells[k] == -letter) {
                    sum--;
                }
            }
            return sum;
        }
    }

    /** A RING as it was told, with what is asked of it again and again. */
    static final class Ring {
        final Row row = new Row(MOST_IN_RING);
        boolean power;
        int self;

        void become(Row draft, Meetings meetings) {
            row.copy(draft);
            row.close();
            power = row.isPower();
            self = power ? NONE : meetings.between(row, row) / 2;
        }

        boolean isSimple() {
            return self == 0;
        }
    }

    /** A row of twists: each is twice its number, and 1 more the other way round. */
    static final class Plan {
        final int[] codes = new int[MOST_TWISTS];
        int size;

        void add(int code) {
            if (size < codes.length) {
                codes[size] = code;
                size++;
            }
        }

        void addAll(Plan other) {
            for (int k = 0; k < other.size; k++) {
                add(other.codes[k]);
            }
        }

        void copy(Plan other) {
            size = other.size;
            System.arraycopy(other.codes, 0, codes, 0, size);
        }

        void becomeReversed(Plan other) {
            size = 0;
            for (int k = other.size - 1; k >= 0; k--) {
                add(other.codes[k] ^ 1);
            }
        }

        int codeOrSize(int i) {
            if (i == NONE) {
                return size;
            }
            return i >= 0 && i < size ? codes[i] : NONE;
        }
    }

    /** Counts how often two rings must meet. */
    static final class Meetings {
        private static final int ROUND = 12;
        // place in THE ROUND of the letters -6 to 6; fewer handles leave out its end alone
        private static final int[] PLACES = {9, 10, 5, 6, 1, 2, 0, 0, 3, 4, 7, 8, 11};

        private final Row back = new Row(MOST_IN_RING);

        /** MEETINGS of two rings that are no powers; v is one that was told. */
        int between(Row u, Row v) {
            back.becomeBack(v);
            return crossings(u, v, true) + crossings(u, back, false);
        }

        // Where rings cross at one place, BACK of v would count the same crossing again.
        private static int crossings(Row u, Row v, boolean atOnePlace) {
            int sum = 0;
            for (int i = 0; i < u.size; i++) {
                int a = u.cells[i];
                int x = -u.cells[i == 0 ? u.size - 1 : i - 1];
                for (int j = 0; j < v.size; j++) {
                    int b = v.cells[j];
                    if (a != b && !atOnePlace) {
                        continue;
                    }
                    int y = -v.cells[j == 0 ? v.size - 1 : j - 1];
                    if (a == b ? x != y && changeSides(u, i, v, j) : cross(x, a, y, b)) {
                        sum++;
                    }
                }
            }
            return sum;
        }

        private static boolean cross(int x, int a, int y, int b) {
            if (x == y || x == b || a == y) {
                return false;
            }
            return goRound(x, y, a) != goRound(x, b, a);
        }

        /** Whether rings that come together at places i and j part on other sides than they came. */
        private static boolean changeSides(Row u, int i, Row v, int j) {
            int a = u.cells[i];
            int x = -u.cells[i == 0 ? u.size - 1 : i - 1];
            int y = -v.cells[j == 0 ? v.size - 1 : j - 1];
            int p = i;
            int q = j;
            int last = a;
            // rings that are alike for as long as both together are alike for ever
            for (int k = 0; k < u.size + v.size; k++) {
                int c = u.cells[p];
                int d = v.cells[q];
                if (c != d) {
                    return goRound(a, x, y) == goRound(-last, c, d);
                }
                last = c;
                p = p + 1 == u.size ? 0 : p + 1;
                q = q + 1 == v.size ? 0 : q + 1;
            }
            return false;
        }

        private static boolean goRound(int x, int y, int z) {
            return stepsRound(x, y) < stepsRound(x, z);
        }

        private static int stepsRound(int from, int to) {
            int start = from + MOST_LETTERS;
            int end = to + MOST_LETTERS;
            if (start < 0 || start >= PLACES.length || end < 0 || end >= PLACES.length) {
                return 0;
            }
            int steps = PLACES[end] - PLACES[start];
            return steps < 0 ? steps + ROUND : steps;
        }
    }

    /** Knows what letters become by each twist. */
    static final class Twister {
        private static final int LONGEST = 9;
        private static final int SLOT = LONGEST + 1;
        private static final int SLOTS = 2 * MOST_LETTERS + 1;

        int twists;
        // by twist, way and letter: how many letters it becomes, then these
        private final int[] words = new int[MOST_CODES * SLOTS * SLOT];
        // a row that ends within its bounds may still be longer on the way to being CLEAN
        private final int[] wide = new int[MOST_IN_ROW * LONGEST];
        private final Row word = new Row(LONGEST);
        private final Row wordBack = new Row(LONGEST);

        void layOut(int g) {
            twists = 3 * g - 1;
            for (int t = 0; t < twists; t++) {
                for (int x = 1; x <= 2 * g; x++) {
                    layWord(2 * t, x, g);
                    layWord(2 * t + 1, x, g);
                }
            }
        }

        private void layWord(int code, int x, int g) {
            int t = code / 2;
            int way = code % 2 == 0 ? 1 : -1;
            word.size = 0;
            if (t < g) {
                spellFirst(t, way, x);
            } else if (t < 2 * g) {
                spellSecond(t - g, way, x);
            } else {
                spellThird(t - 2 * g, way, x);
            }
            wordBack.becomeBack(word);
            keepWord(code, x, word);
            keepWord(code, -x, wordBack);
        }

        private void spellFirst(int i, int way, int x) {
            word.push(x);
            if (x == 2 * i + 2) {
                word.push(way * (2 * i + 1));
            }
        }

        private void spellSecond(int i, int way, int x) {
            word.push(x);
            if (x == 2 * i + 1) {
                word.push(-way * (2 * i + 2));
            }
        }

        private void spellThird(int i, int way, int x) {
            if (x == 2 * i + 2 || x == 2 * i + 3) {
                spellBetween(i, -way);
            }
            word.push(x);
            if (x == 2 * i + 3 || x == 2 * i + 4) {
                spellBetween(i, way);
            }
        }

        /** C, the ring between handle i and the next one, or with way -1 C BACK. */
        private void spellBetween(int i, int way) {
            int first = 2 * i + 1;
            int second = 2 * i + 2;
            int next = 2 * i + 3;
            word.push(way > 0 ? second : -next);
            word.push(way > 0 ? -first : second);
            word.push(way > 0 ? -second : first);
            word.push(way > 0 ? next : -second);
        }

        private static int slotOf(int code, int x) {
            return (code * SLOTS + x + MOST_LETTERS) * SLOT;
        }

        private void keepWord(int code, int x, Row kept) {
            int slot = slotOf(code, x);
            words[slot] = kept.size;
            System.arraycopy(kept.cells, 0, words, slot + 1, kept.size);
        }

        /** The row becomes its image by one twist; false, and the row is left, if that is LARGE. */
        boolean doTwist(int code, Row row) {
            if (code < 0 || code >= MOST_CODES || row.size > MOST_IN_ROW) {
                return false;
            }
            int middle = slotOf(code, 0);
            int size = 0;
            for (int k = 0; k < row.size; k++) {
                int slot = middle + row.cells[k] * SLOT;
                if (slot < 0 || slot + SLOT > words.length || words[slot] >= SLOT) {
                    return false;
                }
                int end = slot + words[slot];
                for (int w = slot + 1; w <= end; w++) {
                    int letter = words[w];
                    if (size > 0 && wide[size - 1] == -letter) {
                        size--;
                    } else if (size < wide.length) {
                        wide[size] = letter;
                        size++;
                    }
                }
            }
            if (size > MOST_IN_ROW || size > row.cells.length) {
                return false;
            }
            System.arraycopy(wide, 0, row.cells, 0, size);
            row.size = size;
            return true;
        }

        /** The row becomes its image by a plan; false, and the row is of no use, if that is LARGE. */
        boolean doPlan(Plan plan, Row row) {
            for (int k = plan.size - 1; k >= 0; k--) {
                if (!doTwist(plan.codes[k], row)) {
                    return false;
                }
            }
            return true;
        }
    }

    /** The images of all letters by plans done one after the other. */
    static final class Images {
        final Row[] rows = new Row[MOST_LETTERS];
        int letters;
        private final int[] sums = new int[MOST_LETTERS * MOST_LETTERS];
        private final Twister twister;

        Images(Twister twister) {
            this.twister = twister;
            for (int k = 0; k < MOST_LETTERS; k++) {
                rows[k] = new Row(MOST_IN_ROW);
            }
        }

        void begin(int handles) {
            letters = 2 * handles;
            for (int x = 1; x <= letters; x++) {
                rows[x - 1].becomeLetter(x);
            }
        }

        boolean doPlan(Plan plan) {
            for (int k = 0; k < letters; k++) {
                if (!twister.doPlan(plan, rows[k])) {
                    return false;
                }
            }
            return true;
        }

        int lettersTogether() {
            int sum = 0;
            for (int k = 0; k < letters; k++) {
                sum += rows[k].size;
            }
            return sum;
        }

        /** m, if these are m FULL TURNS; NO_TURNS. The row is one to work with. */
        int fullTurns(Row work) {
            for (int m = 0; m <= MOST_TURNS; m++) {
                if (areTurns(m, work)) {
                    return m;
                }
                if (areTurns(-m, work)) {
                    return -m;
                }
            }
            return NO_TURNS;
        }

        private boolean areTurns(int m, Row work) {
            for (int x = 1; x <= letters; x++) {
                work.size = 0;
                pushRim(m, work);
                work.push(x);
                pushRim(-m, work);
                if (!work.isLike(rows[x - 1])) {
                    return false;
                }
            }
            return true;
        }

        private void pushRim(int m, Row work) {
            for (int time = 0; time < Math.abs(m); time++) {
                for (int k = 0; k < 2 * letters; k++) {
                    work.push(m > 0 ? rimLetter(k) : -rimLetter(2 * letters - 1 - k));
                }
            }
        }

        private static int rimLetter(int k) {
            int x = k / 4 * 2 + 1 + k % 2;
            return k % 4 < 2 ? x : -x;
        }

        /** The sum of all k by k corners' determinants of TABLE. */
        long cornerSum(int k) {
            for (int x = 0; x < letters; x++) {
                for (int y = 0; y < letters; y++) {
                    sums[x * MOST_LETTERS + y] = rows[x].balanceOf(y + 1);
                }
            }
            long sum = 0;
            for (int set = 0; set < 1 << letters; set++) {
                if (Integer.bitCount(set) == k) {
                    sum += corner(sums, 0, set, set);
                }
            }
            return sum;
        }

        /** The determinant of the rows of the set from row x on, and of the columns. */
        private static long corner(int[] sums, int x, int rowSet, int columnSet) {
            if (x >= MOST_LETTERS) {
                return 1;
            }
            if ((rowSet >> x & 1) == 0) {
                return corner(sums, x + 1, rowSet, columnSet);
            }
            long sum = 0;
            int sign = 1;
            for (int y = 0; y < MOST_LETTERS; y++) {
                if ((columnSet >> y & 1) != 0) {
                    int entry = sums[x * MOST_LETTERS + y];
                    if (entry != 0) {
                        sum += (long) sign * entry * corner(sums, x + 1, rowSet, columnSet & ~(1 << y));
                    }
                    sign = -sign;
                }
            }
            return sum;
        }
    }

    /** Looks for the first plan of the fewest twists that does what is asked. */
    static final class Search {
        private final Twister twister;
        private final Images images;
        private final Row[] steps = new Row[MOST_SOUGHT + 1];
        private final int[] sizesAhead = new int[MOST_CODES];
        private final Row goal = new Row(MOST_IN_RING);
        private int best;

        Search(Twister twister, Images images) {
            this.twister = twister;
            this.images = images;
            for (int k = 0; k <= MOST_SOUGHT; k++) {
                steps[k] = new Row(MOST_IN_ROW);
            }
        }

        boolean forCarrying(Row from, Row to, int n, Plan found) {
            goal.copy(to);
            measureAhead();
            steps[0].copy(from);
            if (from.isOneWith(to)) {
                found.size = 0;
                return true;
            }
            for (int k = 1; k <= n; k++) {
                best = NONE;
                tryTwists(0, k, 0, 1);
                if (best != NONE) {
                    spell(best, k, found);
                    return true;
                }
            }
            return false;
        }

        // What a twist carries to the goal is as long as the goal carried the other way round:
        // that spares most of the rows of the last level.
        private void measureAhead() {
            for (int code = 0; code < 2 * twister.twists; code++) {
                steps[0].copy(goal);
                sizesAhead[code] = twister.doTwist(code ^ 1, steps[0]) ? steps[0].closedSize() : NONE;
            }
        }

        /**
         * Tries all plans of k twists whose last ones are done already; the first twist of a plan
         * is done last, so it weighs most in the rank by which plans come one after the other.
         */
        private void tryTwists(int done, int k, int rank, int weight) {
            if (done < 0 || done >= k || k >= steps.length) {
                return;
            }
            boolean last = done + 1 == k;
            int size = steps[done].closedSize();
            for (int code = 0; code < 2 * twister.twists; code++) {
                int next = rank + code * weight;
                if (last && best != NONE && next >= best) {
                    return;
                }
                if (last && sizesAhead[code] != NONE && sizesAhead[code] != size) {
                    continue;
                }
                Row row = steps[done + 1];
                row.copy(steps[done]);
                if (!twister.doTwist(code, row)) {
                    continue;
                }
                if (!last) {
                    tryTwists(done + 1, k, next, weight * 2 * twister.twists);
                } else if (row.isOneWith(goal)) {
                    best = next;
                }
            }
        }

        private void spell(int rank, int k, Plan plan) {
            int base = Math.max(1, 2 * twister.twists);
            int rest = rank;
            plan.size = k;
            for (int place = k - 1; place >= 0; place--) {
                plan.codes[place] = rest % base;
                rest /= base;
            }
        }

        boolean forImages(int n, Plan found) {
            int many = 1;
            for (int k = 0; k <= n; k++) {
                for (int rank = 0; rank < many; rank++) {
                    spell(rank, k, found);
                    if (doesAsImages(found)) {
                        return true;
                    }
                }
                many *= 2 * twister.twists;
            }
            return false;
        }

        private boolean doesAsImages(Plan plan) {
            Row row = steps[0];
            for (int x = 1; x <= images.letters; x++) {
                row.becomeLetter(x);
                if (!twister.doPlan(plan, row) || !row.isLike(images.rows[x - 1])) {
                    return false;
                }
            }
            return true;
        }
    }

    /** THE TEXT, and how it becomes a plan. */
    static final class TextReader {
        private static final int ITEM = 0, HANDLE = 1, WAY = 2, TIMES = 3;
        private static final int MOST_OPEN = 4;

        int size;
        int faultByte = NONE;
        final Plan plan = new Plan();
        private final int[] text = new int[MOST_BYTES];
        private final int[] opened = new int[MOST_OPEN];
        private int handles;
        private int open;
        private int state;
        private int kind;
        private int kindByte;

        void add(int value) {
            if (size < text.length) {
                text[size] = value;
                size++;
            }
        }

        /** Answers the number of the FAULT, and 0 if there is none. */
        int understand(int g) {
            plan.size = 0;
            handles = g;
            open = 0;
            state = ITEM;
            for (int place = 0; place < size; place++) {
                faultByte = place;
                int fault = text[place] == ' ' ? 0 : take(text[place], place);
                if (fault != 0) {
                    return fault;
                }
            }
            faultByte = size;
            if (open > 0 || state == HANDLE || state == TIMES) {
                return 1;
            }
            faultByte = NONE;
            return 0;
        }

        private int take(int value, int place) {
            switch (state) {
                case HANDLE:
                    return takeHandle(value);
                case TIMES:
                    return takeTimes(value);
                default:
                    return takeItem(value, place);
            }
        }

        private static boolean isFigure(int value) {
            return value >= '0' && value <= '9';
        }

        private int takeHandle(int value) {
            if (!isFigure(value)) {
                return 1;
            }
            int handle = value - '0';
            if (handle < 1 || handle > (kind == 2 ? handles - 1 : handles)) {
                return 2;
            }
            if (plan.size >= MOST_TWISTS) {
                faultByte = kindByte;
                return 3;
            }
            plan.add(2 * (kind * handles + handle - 1));
            state = WAY;
            return 0;
        }

        private int takeTimes(int value) {
            if (!isFigure(value)) {
                return 1;
            }
            int times = value - '0';
            if (times < 1) {
                return 2;
            }
            if (open < 0 || open >= MOST_OPEN) {
                return 1;
            }
            int start = opened[open];
            int part = plan.size - start;
            if (start + part * times > MOST_TWISTS) {
                return 3;
            }
            for (int k = 0; k < part * (times - 1); k++) {
                plan.add(plan.codes[start + k]);
            }
            state = ITEM;
            return 0;
        }

        private int takeItem(int value, int place) {
            boolean mayTurn = state == WAY;
            state = ITEM;
            if (value == '-' && mayTurn && plan.size > 0) {
                plan.codes[plan.size - 1] ^= 1;
                return 0;
            }
            if (value >= 'a' && value <= 'c') {
                kind = value - 'a';
                kindByte = place;
                state = HANDLE;
                return 0;
            }
            if (value == '(') {
                if (open >= MOST_OPEN) {
                    return 4;
                }
                opened[open] = plan.size;
                open++;
                return 0;
            }
            if (value == ')' && open > 0) {
                open--;
                state = TIMES;
                return 0;
            }
            return 1;
        }
    }
}
