import java.util.List;
import java.util.Random;

/** Random runs of calls, each answer held against the slow reading of the document. */
public final class RandomRunsTest {
    private static final String[] CALLS = {
        "skin", "letter", "ring", "told", "at", "meets", "one", "heap", "drop", "count", "feed", "read", "fault",
        "twist", "chain", "turn", "image", "carried", "meetsThen", "same", "turns", "order", "table", "character",
        "length", "sort", "law", "carry", "fewest", "a ring", "a carried ring", "a text", "a broken text",
        "a way", "a chain", "deep brackets"
    };
    // how often a call comes, in the order above
    private static final int[] WEIGHTS = {
        1, 20, 4, 20, 10, 30, 12, 20, 5, 8, 2, 1, 10,
        10, 10, 6, 20, 20, 20, 20, 10, 10, 20, 20,
        12, 20, 6, 3, 3, 25, 25, 40, 15,
        6, 12, 3
    };

    private final Random random;
    private final Due due = new Due();
    private SkinTwists fast;
    private SlowTwists slow;
    private final StringBuilder run = new StringBuilder();

    private RandomRunsTest(long seed) {
        random = new Random(seed);
    }

    public static void main(String[] args) {
        int runs = args.length > 0 ? Integer.parseInt(args[0]) : 120;
        long seed = args.length > 1 ? Long.parseLong(args[1]) : 20261118L;
        RandomRunsTest test = new RandomRunsTest(seed);
        for (int k = 0; k < runs; k++) {
            test.oneRun();
        }
        test.due.end("RandomRunsTest");
    }

    private void oneRun() {
        fast = new SkinTwists();
        slow = new SlowTwists();
        run.setLength(0);
        int g = 1 + random.nextInt(3);
        check("skin", new int[] {g});
        int total = 0;
        for (int weight : WEIGHTS) {
            total += weight;
        }
        for (int k = 0; k < 150; k++) {
            int pick = random.nextInt(total);
            int call = 0;
            while (pick >= WEIGHTS[call]) {
                pick -= WEIGHTS[call];
                call++;
            }
            make(CALLS[call]);
        }
    }

    private void make(String call) {
        int p = plan();
        int r = ring();
        int s = ring();
        switch (call) {
            case "skin": check(call, new int[] {near(1, 3)}); break;
            case "letter": check(call, new int[] {near(-2 * slow.g, 2 * slow.g)}); break;
            case "ring": case "drop": case "fault": check(call, new int[] {}); break;
            case "told": check(call, new int[] {r, near(0, 3)}); break;
            case "at": check(call, new int[] {r, near(0, 8)}); break;
            case "meets": case "one": check(call, new int[] {r, s}); break;
            case "heap": check(call, new int[] {someSet()}); break;
            case "count": check(call, new int[] {near(0, 4)}); break;
            case "feed": feed(near(1, 8), random.nextLong()); break;
            case "read": check(call, new int[] {p}); break;
            case "twist": check(call, new int[] {p, near(-1, 12)}); break;
            case "chain": check(call, new int[] {plan(), p, plan()}); break;
            case "turn": check(call, new int[] {plan(), p}); break;
            case "image": check(call, new int[] {p, near(1, 2 * slow.g), near(-1, 12)}); break;
            case "carried": check(call, new int[] {p, r, random.nextInt(3) == 0 ? -1 : s}); break;
            case "meetsThen": check(call, new int[] {p, r, s}); break;
            case "same": check(call, new int[] {p, plan()}); break;
            case "turns": check(call, new int[] {p}); break;
            case "order": check(call, new int[] {p, near(1, 24)}); break;
            case "table": check(call, new int[] {p, near(1, 2 * slow.g), near(1, 2 * slow.g)}); break;
            case "character": check(call, new int[] {p, near(0, 2 * slow.g)}); break;
            case "length": check(call, new int[] {p, near(0, random.nextInt(4) == 0 ? 24 : 4)}); break;
            case "sort": check(call, new int[] {p, near(1, random.nextInt(2) == 0 ? 12 : 3)}); break;
            case "law": check(call, new int[] {near(0, 3 * slow.g - 2), near(0, 3 * slow.g - 2)}); break;
            case "carry": check(call, new int[] {r, s, near(0, 3), near(-1, 2)}); break;
            case "fewest": check(call, new int[] {p, near(0, 3), near(-1, 2)}); break;
            case "a ring": someRing(); break;
            case "a carried ring": carriedRing(); break;
            case "a text": text(someItems(0, 4)); check("read", new int[] {p}); break;
            case "a way": someWay(p); break;
            case "a chain": text(someChain()); check("read", new int[] {p}); break;
            case "deep brackets": text(someBrackets()); check("read", new int[] {p}); check("fault", new int[] {}); break;
            default: brokenText(); check("read", new int[] {p}); check("fault", new int[] {}); break;
        }
    }

    /** Mostly within the bounds, now and then just or far outside. */
    private int near(int low, int high) {
        switch (random.nextInt(24)) {
            case 0: return low - 1;
            case 1: return high + 1;
            case 2: return random.nextInt();
            default: return low + random.nextInt(high - low + 1);
        }
    }

    private int plan() {
        return random.nextInt(40) == 0 ? near(0, 7) : random.nextInt(8);
    }

    private int ring() {
        return slow.rings.isEmpty() || random.nextInt(40) == 0 ? near(0, 11) : random.nextInt(slow.rings.size());
    }

    private int someSet() {
        int set = random.nextInt(30) == 0 ? random.nextInt() : 0;
        for (int k = 0; k < slow.rings.size(); k++) {
            if (random.nextInt(3) == 0) {
                set |= 1 << k;
            }
        }
        return set;
    }

    private int someLetter() {
        int x = 1 + random.nextInt(2 * slow.g);
        return random.nextBoolean() ? x : -x;
    }

    private void makeRoom() {
        if (slow.rings.size() == 12 && random.nextInt(3) != 0) {
            check("drop", new int[] {});
        }
    }

    private void someRing() {
        makeRoom();
        int part = 1 + random.nextInt(random.nextInt(4) == 0 ? 30 : 5);
        int many = random.nextInt(8) == 0 ? 2 + random.nextInt(2) : 1;
        int[] letters = new int[part];
        for (int k = 0; k < part; k++) {
            letters[k] = someLetter();
        }
        for (int time = 0; time < many; time++) {
            for (int x : letters) {
                check("letter", new int[] {x});
            }
        }
        check("ring", new int[] {});
    }

    private void carriedRing() {
        makeRoom();
        int r = ring();
        int p = random.nextInt(8);
        if (r < 0 || r >= slow.rings.size()) {
            check("letter", new int[] {someLetter()});
            check("ring", new int[] {});
            return;
        }
        try {
            List<Integer> row = slow.imageOf(slow.plans.get(p), slow.rings.get(r));
            for (int x : row.size() > 60 ? row.subList(0, 60) : row) {
                check("letter", new int[] {x});
            }
            check("ring", new int[] {});
        } catch (SlowTwists.TooLarge large) {
            check("carried", new int[] {p, r, -1});
        }
    }

    /** A few twists, a ring that they carry some ring to, and what is found of them again. */
    private void someWay(int p) {
        StringBuilder text = new StringBuilder();
        for (int k = random.nextInt(3); k >= 0; k--) {
            text.append(someTwist());
        }
        text(text.toString());
        check("read", new int[] {p});
        check("fewest", new int[] {p, near(0, 3), near(-1, 2)});
        makeRoom();
        int r = ring();
        if (p < 0 || p > 7 || r < 0 || r >= slow.rings.size()) {
            return;
        }
        try {
            for (int x : slow.imageOf(slow.plans.get(p), slow.rings.get(r))) {
                check("letter", new int[] {x});
            }
            check("ring", new int[] {});
            for (int i = -1; i < 3; i++) {
                check("carry", new int[] {r, slow.rings.size() - 1, 3, i});
            }
            check("carry", new int[] {r, slow.rings.size() - 1, near(0, 2), 0});
        } catch (SlowTwists.TooLarge large) {
            check("carried", new int[] {p, r, -1});
        }
    }

    /** Twists of rings each of which meets the next: such plans come back. */
    private String someChain() {
        String[] ways = {"", "-"};
        String way = ways[random.nextInt(2)];
        String[] chain = {"a1", "b1", "c1", "b2", "c2", "b3"};
        int last = 1 + random.nextInt(2 * slow.g);
        int first = random.nextInt(Math.min(2, last));
        StringBuilder text = new StringBuilder("(");
        for (int k = first; k < last; k++) {
            text.append(chain[k]).append(way);
        }
        if (random.nextInt(3) == 0) {
            text.append(chain[last - 1]).append(way);
        }
        return text.append(")").append(1 + random.nextInt(random.nextInt(2) == 0 ? 9 : 2)).toString();
    }

    private String someBrackets() {
        StringBuilder text = new StringBuilder();
        for (int k = 2 + random.nextInt(4); k >= 0; k--) {
            text.append(blank()).append(random.nextInt(12) == 0 ? ")2(" : "(");
        }
        text.append("a1");
        for (int k = 2 + random.nextInt(4); k >= 0; k--) {
            text.append(blank()).append(')').append(random.nextInt(4));
        }
        return text.toString();
    }

    private String someTwist() {
        int kind = random.nextInt(slow.g == 1 ? 2 : 3);
        int handle = 1 + random.nextInt(kind == 2 ? slow.g - 1 : slow.g);
        return "abc".charAt(kind) + blank() + handle + blank() + (random.nextInt(3) == 0 ? "-" : "");
    }

    private String blank() {
        return random.nextInt(12) == 0 ? " " : "";
    }

    private String someItems(int depth, int most) {
        StringBuilder text = new StringBuilder();
        int items = random.nextInt(10) == 0 ? 0 : 1 + random.nextInt(most);
        for (int k = 0; k < items; k++) {
            text.append(blank());
            if (random.nextInt(4) == 0 && depth < 4) {
                text.append('(').append(someItems(depth + 1, most)).append(blank()).append(')').append(blank());
                text.append(1 + random.nextInt(random.nextInt(3) == 0 ? 9 : 3));
            } else {
                text.append(someTwist());
            }
        }
        return text.append(blank()).toString();
    }

    private void brokenText() {
        StringBuilder text = new StringBuilder(someItems(0, 5));
        String signs = "abc()-0123456789 (a1)9(b1)9\u00e9d";
        for (int k = random.nextInt(3); k >= 0; k--) {
            int place = random.nextInt(text.length() + 1);
            text.insert(place, signs.charAt(random.nextInt(signs.length())));
            if (random.nextInt(3) == 0) {
                text.deleteCharAt(random.nextInt(text.length()));
            }
        }
        if (random.nextInt(6) == 0) {
            text.insert(0, "(a1b1)9 (a1-b1)9 (a1)9 (b1-)9 a1 b1 a1 a1");
        }
        text(text.toString());
    }

    private void text(String text) {
        for (int from = 0; from < text.length();) {
            int n = Math.min(1 + random.nextInt(8), text.length() - from);
            long bytes = random.nextBoolean() ? random.nextLong() : 0;
            for (int k = 0; k < n; k++) {
                bytes = bytes << 8 | text.charAt(from + k);
            }
            feed(n, bytes);
            from += n;
        }
    }

    private void feed(int n, long bytes) {
        run.append("feed(").append(n).append(", ").append(bytes).append("L); ");
        due.is(run.toString(), fast.feed(n, bytes), slow.feed(n, bytes));
    }

    private void check(String call, int[] a) {
        run.append(call).append('(');
        for (int k = 0; k < a.length; k++) {
            run.append(k == 0 ? "" : ", ").append(a[k]);
        }
        run.append("); ");
        long got = fastAnswer(call, a);
        long want = slowAnswer(call, a);
        if (got != want) {
            due.is(run.toString(), got, want);
        } else {
            due.is(call, got, want);
        }
    }

    private long fastAnswer(String call, int[] a) {
        switch (call) {
            case "skin": return fast.skin(a[0]);
            case "letter": return fast.letter(a[0]);
            case "ring": return fast.ring();
            case "told": return fast.told(a[0], a[1]);
            case "at": return fast.at(a[0], a[1]);
            case "meets": return fast.meets(a[0], a[1]);
            case "one": return fast.one(a[0], a[1]);
            case "heap": return fast.heap(a[0]);
            case "drop": return fast.drop();
            case "count": return fast.count(a[0]);
            case "read": return fast.read(a[0]);
            case "fault": return fast.fault();
            case "twist": return fast.twist(a[0], a[1]);
            case "chain": return fast.chain(a[0], a[1], a[2]);
            case "turn": return fast.turn(a[0], a[1]);
            case "image": return fast.image(a[0], a[1], a[2]);
            case "carried": return fast.carried(a[0], a[1], a[2]);
            case "meetsThen": return fast.meetsThen(a[0], a[1], a[2]);
            case "same": return fast.same(a[0], a[1]);
            case "turns": return fast.turns(a[0]);
            case "order": return fast.order(a[0], a[1]);
            case "table": return fast.table(a[0], a[1], a[2]);
            case "character": return fast.character(a[0], a[1]);
            case "length": return fast.length(a[0], a[1]);
            case "sort": return fast.sort(a[0], a[1]);
            case "law": return fast.law(a[0], a[1]);
            case "carry": return fast.carry(a[0], a[1], a[2], a[3]);
            default: return fast.fewest(a[0], a[1], a[2]);
        }
    }

    private long slowAnswer(String call, int[] a) {
        switch (call) {
            case "skin": return slow.skin(a[0]);
            case "letter": return slow.letter(a[0]);
            case "ring": return slow.ring();
            case "told": return slow.told(a[0], a[1]);
            case "at": return slow.at(a[0], a[1]);
            case "meets": return slow.meets(a[0], a[1]);
            case "one": return slow.one(a[0], a[1]);
            case "heap": return slow.heap(a[0]);
            case "drop": return slow.drop();
            case "count": return slow.count(a[0]);
            case "read": return slow.read(a[0]);
            case "fault": return slow.fault();
            case "twist": return slow.twist(a[0], a[1]);
            case "chain": return slow.chain(a[0], a[1], a[2]);
            case "turn": return slow.turn(a[0], a[1]);
            case "image": return slow.image(a[0], a[1], a[2]);
            case "carried": return slow.carried(a[0], a[1], a[2]);
            case "meetsThen": return slow.meetsThen(a[0], a[1], a[2]);
            case "same": return slow.same(a[0], a[1]);
            case "turns": return slow.turns(a[0]);
            case "order": return slow.order(a[0], a[1]);
            case "table": return slow.table(a[0], a[1], a[2]);
            case "character": return slow.character(a[0], a[1]);
            case "length": return slow.length(a[0], a[1]);
            case "sort": return slow.sort(a[0], a[1]);
            case "law": return slow.law(a[0], a[1]);
            case "carry": return slow.carry(a[0], a[1], a[2], a[3]);
            default: return slow.fewest(a[0], a[1], a[2]);
        }
    }
}
