import java.util.ArrayList;
import java.util.List;

/** 'Terms' of the document: each refusal, their order, what they leave, and rows that are too long. */
public final class TermsTest {
    private static final int NONE = -1, UNKNOWN = -1001, OUTSIDE = -1002, NOT = -1003, FULL = -1004, LARGE = -1005;
    private static final int LEAST = Integer.MIN_VALUE, MOST = Integer.MAX_VALUE;

    private final Due due = new Due();

    private interface Call {
        long on(SkinTwists x);
    }

    /** A call that has one number more to be told. */
    private interface CallOf {
        long on(SkinTwists x, int number);
    }

    private record Asked(String name, Call call, int want) {
    }

    private record Bounded(String name, CallOf call, int low, int high) {
    }

    private record Named(String name, CallOf call) {
    }

    public static void main(String[] args) {
        TermsTest test = new TermsTest();
        test.constants();
        test.numbersFromNought();
        test.plansThatThereAreNot();
        test.ringsThatThereAreNot();
        test.twistsThatThereAreNot();
        test.numbersOutOfBounds();
        test.theFirstRefusal();
        test.refusedChangesNothing();
        test.questionsChangeNothing();
        test.rowsOfFourHundred();
        test.rowsOnTheWay();
        test.ringsOfFourHundred();
        test.manyCalls();
        test.due.end("TermsTest");
    }

    private void constants() {
        due.says("NONE = -1, UNKNOWN = -1001, OUTSIDE = -1002, NOT = -1003, FULL = -1004, LARGE = -1005");
        due.is("NONE", SkinTwists.NONE, NONE);
        due.is("UNKNOWN", SkinTwists.UNKNOWN, UNKNOWN);
        due.is("OUTSIDE", SkinTwists.OUTSIDE, OUTSIDE);
        due.is("NOT", SkinTwists.NOT, NOT);
        due.is("FULL", SkinTwists.FULL, FULL);
        due.is("LARGE", SkinTwists.LARGE, LARGE);
    }

    private void numbersFromNought() {
        due.says("what has a number has it from 0 on");
        SkinTwists x = new SkinTwists();
        due.is("the first ring", Due.ring(x, 4, 3), 0);
        due.is("its first letter", x.at(0, 0), 4);
        due.is("the first plan", Due.read(x, 0, "a1b1"), 2);
        due.is("its first twist", x.twist(0, 0), 0);
        due.is("the first letter of an image", x.image(7, 3, 0), 3);
        due.is("the first byte", Due.read(x, 0, "?"), -11);
        due.is("the first byte", x.fault(), 0);
        due.is("the first twist", x.law(0, 0), 0);
    }

    private static List<Named> callsOfPlans() {
        List<Named> calls = new ArrayList<>();
        calls.add(new Named("read", (x, p) -> x.read(p)));
        calls.add(new Named("twist", (x, p) -> x.twist(p, NONE)));
        calls.add(new Named("chain 0", (x, p) -> x.chain(p, 0, 0)));
        calls.add(new Named("chain 1", (x, p) -> x.chain(0, p, 0)));
        calls.add(new Named("chain 2", (x, p) -> x.chain(0, 0, p)));
        calls.add(new Named("turn 0", (x, p) -> x.turn(p, 0)));
        calls.add(new Named("turn 1", (x, p) -> x.turn(0, p)));
        calls.add(new Named("image", (x, p) -> x.image(p, 1, NONE)));
        calls.add(new Named("carried", (x, p) -> x.carried(p, 0, NONE)));
        calls.add(new Named("meetsThen", (x, p) -> x.meetsThen(p, 0, 0)));
        calls.add(new Named("same 0", (x, p) -> x.same(p, 0)));
        calls.add(new Named("same 1", (x, p) -> x.same(0, p)));
        calls.add(new Named("turns", (x, p) -> x.turns(p)));
        calls.add(new Named("order", (x, p) -> x.order(p, 1)));
        calls.add(new Named("table", (x, p) -> x.table(p, 1, 1)));
        calls.add(new Named("character", (x, p) -> x.character(p, 0)));
        calls.add(new Named("length", (x, p) -> x.length(p, 0)));
        calls.add(new Named("sort", (x, p) -> x.sort(p, 1)));
        calls.add(new Named("fewest", (x, p) -> x.fewest(p, 0, NONE)));
        return calls;
    }

    private void plansThatThereAreNot() {
        due.says("UNKNOWN (a PLAN, RING, TWIST that there is not)");
        for (Named call : callsOfPlans()) {
            SkinTwists x = new SkinTwists();
            Due.ring(x, 1);
            for (int p : new int[] {-1, 8, 9, -8, 16, 256, LEAST, MOST}) {
                due.is(call.name + " of plan " + p, call.call.on(x, p), UNKNOWN);
            }
            for (int p = 0; p < 8; p++) {
                due.isNot(call.name + " of plan " + p, call.call.on(x, p), UNKNOWN);
            }
        }
    }

    private static List<Named> callsOfRings() {
        List<Named> calls = new ArrayList<>();
        calls.add(new Named("told", (x, r) -> x.told(r, 0)));
        calls.add(new Named("at", (x, r) -> x.at(r, 0)));
        calls.add(new Named("meets 0", (x, r) -> x.meets(r, 0)));
        calls.add(new Named("meets 1", (x, r) -> x.meets(0, r)));
        calls.add(new Named("one 0", (x, r) -> x.one(r, 0)));
        calls.add(new Named("one 1", (x, r) -> x.one(0, r)));
        calls.add(new Named("carried", (x, r) -> x.carried(0, r, 0)));
        // a ring to be held against may be NONE, which asks something else
        calls.add(new Named("carried to", (x, r) -> x.carried(0, 0, r == NONE ? -2 : r)));
        calls.add(new Named("meetsThen 1", (x, r) -> x.meetsThen(0, r, 0)));
        calls.add(new Named("meetsThen 2", (x, r) -> x.meetsThen(0, 0, r)));
        calls.add(new Named("carry 0", (x, r) -> x.carry(r, 0, 0, NONE)));
        calls.add(new Named("carry 1", (x, r) -> x.carry(0, r, 0, NONE)));
        calls.add(new Named("heap", (x, r) -> x.heap(r < 0 || r > 31 ? LEAST : 1 << r)));
        return calls;
    }

    private void ringsThatThereAreNot() {
        due.says("UNKNOWN (a PLAN, RING, TWIST that there is not)");
        for (Named call : callsOfRings()) {
            SkinTwists x = new SkinTwists();
            for (int r : new int[] {0, 1, -1, LEAST, MOST}) {
                due.is(call.name + " of no ring " + r, call.call.on(x, r), UNKNOWN);
            }
            Due.ring(x, 1);
            Due.ring(x, 2);
            Due.ring(x, 3);
            x.drop();
            for (int r : new int[] {-1, 2, 3, 11, 12, 13, LEAST, MOST}) {
                due.is(call.name + " of ring " + r, call.call.on(x, r), UNKNOWN);
            }
            for (int r = 0; r < 12; r++) {
                if (r > 1) {
                    Due.ring(x, 4);
                }
                due.isNot(call.name + " of ring " + r, call.call.on(x, r), UNKNOWN);
            }
            due.is(call.name + " behind twelve rings", call.call.on(x, 12), UNKNOWN);
        }
    }

    private void twistsThatThereAreNot() {
        due.says("2 g to 3 g - 2 (if g is above 1)");
        for (int g = 1; g <= 3; g++) {
            SkinTwists x = Made.skin(g);
            int many = 3 * g - 1;
            due.is("twists of " + g, x.count(3), many);
            for (int t : new int[] {-1, many, many + 1, LEAST, MOST}) {
                due.is("law of twist " + t, x.law(t, 0), UNKNOWN);
                due.is("law with twist " + t, x.law(0, t), UNKNOWN);
            }
            due.is("law of the last twist", x.law(many - 1, many - 1), 0);
        }
    }

    private static List<Bounded> boundsOf(int g) {
        List<Bounded> all = new ArrayList<>();
        all.add(new Bounded("letter", (x, k) -> x.letter(k), -2 * g, 2 * g));
        all.add(new Bounded("told", (x, k) -> x.told(0, k), 0, 3));
        all.add(new Bounded("count", (x, k) -> x.count(k), 0, 4));
        all.add(new Bounded("feed", (x, k) -> x.feed(k, 0L), 1, 8));
        all.add(new Bounded("image", (x, k) -> x.image(0, k, NONE), 1, 2 * g));
        all.add(new Bounded("order", (x, k) -> x.order(0, k), 1, 24));
        all.add(new Bounded("table x", (x, k) -> x.table(0, k, 1), 1, 2 * g));
        all.add(new Bounded("table y", (x, k) -> x.table(0, 1, k), 1, 2 * g));
        all.add(new Bounded("character", (x, k) -> x.character(0, k), 0, 2 * g));
        all.add(new Bounded("length", (x, k) -> x.length(0, k), 0, 24));
        all.add(new Bounded("sort", (x, k) -> x.sort(0, k), 1, 12));
        all.add(new Bounded("carry n", (x, k) -> x.carry(0, 0, k, NONE), 0, 3));
        all.add(new Bounded("carry i", (x, k) -> x.carry(0, 0, 0, k), NONE, 2));
        all.add(new Bounded("fewest n", (x, k) -> x.fewest(0, k, NONE), 0, 3));
        all.add(new Bounded("fewest i", (x, k) -> x.fewest(0, 0, k), NONE, 2));
        all.add(new Bounded("skin", (x, k) -> x.skin(k), 1, 3));
        return all;
    }

    private void numbersOutOfBounds() {
        due.says("OUTSIDE (another number out of its bounds)");
        for (int g = 1; g <= 3; g++) {
            SkinTwists x = Made.skin(g);
            Due.ring(x, 1);
            Due.read(x, 0, "a1");
            for (Bounded bounded : boundsOf(g)) {
                for (int k : new int[] {bounded.low - 1, bounded.high + 1, LEAST, LEAST + 1, MOST, MOST - 1}) {
                    due.is(bounded.name + " " + k + " of " + g, bounded.call.on(x, k), OUTSIDE);
                }
                due.isNot(bounded.name + " " + bounded.low, bounded.call.on(x, bounded.low), OUTSIDE);
                due.isNot(bounded.name + " " + bounded.high, bounded.call.on(x, bounded.high), OUTSIDE);
            }
            due.is("letter 0", x.letter(0), OUTSIDE);
        }
    }

    /** Twelve rings, two of them no simple ones, a full draft, a full text, a fault; plan 0 is LARGE. */
    private static SkinTwists crowded() {
        SkinTwists x = Made.plans(2, "(a1b1-)7", "a1b1", "((a2)6)5((b2-)6)5", "c1-", "a2");
        Due.read(x, 5, "b2 x");
        int[][] rings = {
            {1}, {2}, {1, 1}, {1, -3}, {3}, {4}, {1, 2}, {1, -2}, {3, 4}, {1, 3}, {2, -1, -2, 3}, {1, 2, -1, -2}
        };
        for (int[] ring : rings) {
            Due.ring(x, ring);
        }
        for (int k = 0; k < 30; k++) {
            x.letter(1);
            x.letter(4);
        }
        StringBuilder text = new StringBuilder("a1 b2-(c1)3");
        while (text.length() < 120) {
            text.append(' ');
        }
        Due.feed(x, text.toString());
        return x;
    }

    /** All that can be asked of an object's state; the questions at the end use it up. */
    private static List<Long> seen(SkinTwists x) {
        List<Long> all = new ArrayList<>();
        all.add((long) x.fault());
        for (int what = 0; what < 5; what++) {
            all.add((long) x.count(what));
        }
        for (int r = 0; r < x.count(1); r++) {
            rowSeen(x, r, all);
        }
        for (int p = 0; p < 8; p++) {
            for (int i = -1; i < x.twist(p, NONE); i++) {
                all.add((long) x.twist(p, i));
            }
        }
        all.add((long) x.read(6));
        all.add((long) x.fault());
        for (int i = 0; i < 5; i++) {
            all.add((long) x.twist(6, i));
        }
        all.add((long) x.drop());
        all.add((long) x.ring());
        rowSeen(x, x.count(1) - 1, all);
        return all;
    }

    private static void rowSeen(SkinTwists x, int r, List<Long> all) {
        int size = x.told(r, 0);
        all.add((long) size);
        for (int i = 0; i < size; i++) {
            all.add((long) x.at(r, i));
        }
    }

    private static void add(List<Asked> list, String name, int want, Call call) {
        list.add(new Asked(name, call, want));
    }

    /** Refused calls of a crowded skin that have one reason, or several. */
    private static List<Asked> refusedRings() {
        List<Asked> list = new ArrayList<>();
        add(list, "skin(0)", OUTSIDE, x -> x.skin(0));
        add(list, "skin(4)", OUTSIDE, x -> x.skin(4));
        add(list, "letter(1), full", FULL, x -> x.letter(1));
        add(list, "letter(-4), full, though it takes one out", FULL, x -> x.letter(-4));
        add(list, "letter(0), full, too", OUTSIDE, x -> x.letter(0));
        add(list, "letter(5), full, too", OUTSIDE, x -> x.letter(5));
        add(list, "ring()", FULL, SkinTwists::ring);
        add(list, "told(12, 0)", UNKNOWN, x -> x.told(12, 0));
        add(list, "told(0, 4)", OUTSIDE, x -> x.told(0, 4));
        add(list, "told(12, 4)", UNKNOWN, x -> x.told(12, 4));
        add(list, "at(12, 0)", UNKNOWN, x -> x.at(12, 0));
        add(list, "meets(0, 12)", UNKNOWN, x -> x.meets(0, 12));
        add(list, "meets(2, 0), a power", NOT, x -> x.meets(2, 0));
        add(list, "meets(0, 2), a power", NOT, x -> x.meets(0, 2));
        add(list, "meets(2, 12), a power, too", UNKNOWN, x -> x.meets(2, 12));
        add(list, "meets(12, 2), a power, too", UNKNOWN, x -> x.meets(12, 2));
        add(list, "one(12, 0)", UNKNOWN, x -> x.one(12, 0));
        add(list, "heap(4097)", UNKNOWN, x -> x.heap(4097));
        add(list, "count(5)", OUTSIDE, x -> x.count(5));
        return list;
    }

    private static List<Asked> refusedPlans() {
        List<Asked> list = new ArrayList<>();
        add(list, "feed(0), full, too", OUTSIDE, x -> x.feed(0, 0x6131L));
        add(list, "feed(9), full, too", OUTSIDE, x -> x.feed(9, 0x6131L));
        add(list, "feed(1)", FULL, x -> x.feed(1, 0x61L));
        add(list, "feed(8)", FULL, x -> x.feed(8, 0x61L));
        add(list, "read(8)", UNKNOWN, x -> x.read(8));
        add(list, "read(-1)", UNKNOWN, x -> x.read(-1));
        add(list, "twist(8, 0)", UNKNOWN, x -> x.twist(8, 0));
        add(list, "chain(1, 2, 1)", FULL, x -> x.chain(1, 2, 1));
        add(list, "chain(2, 4, 2)", FULL, x -> x.chain(2, 4, 2));
        add(list, "chain(8, 2, 1), full, too", UNKNOWN, x -> x.chain(8, 2, 1));
        add(list, "chain(1, 8, 1)", UNKNOWN, x -> x.chain(1, 8, 1));
        add(list, "chain(1, 1, 8)", UNKNOWN, x -> x.chain(1, 1, 8));
        add(list, "turn(8, 1)", UNKNOWN, x -> x.turn(8, 1));
        add(list, "turn(1, 8)", UNKNOWN, x -> x.turn(1, 8));
        add(list, "image(0, 1, 0)", LARGE, x -> x.image(0, 1, 0));
        add(list, "image(0, 5, 0), large, too", OUTSIDE, x -> x.image(0, 5, 0));
        add(list, "image(0, -1, 0), large, too", OUTSIDE, x -> x.image(0, -1, 0));
        add(list, "image(8, 0, 0), outside, too", UNKNOWN, x -> x.image(8, 0, 0));
        add(list, "carried(0, 0, NONE)", LARGE, x -> x.carried(0, 0, NONE));
        add(list, "carried(0, 0, 12), large, too", UNKNOWN, x -> x.carried(0, 0, 12));
        add(list, "carried(0, 12, 0)", UNKNOWN, x -> x.carried(0, 12, 0));
        add(list, "meetsThen(0, 0, 1)", LARGE, x -> x.meetsThen(0, 0, 1));
        add(list, "meetsThen(0, 2, 1), large, too", NOT, x -> x.meetsThen(0, 2, 1));
        add(list, "meetsThen(0, 0, 2), large, too", NOT, x -> x.meetsThen(0, 0, 2));
        add(list, "meetsThen(0, 2, 12), all of it", UNKNOWN, x -> x.meetsThen(0, 2, 12));
        add(list, "meetsThen(8, 2, 2), a power, too", UNKNOWN, x -> x.meetsThen(8, 2, 2));
        return list;
    }

    private static List<Asked> refusedDeeds() {
        List<Asked> list = new ArrayList<>();
        add(list, "same(0, 1)", LARGE, x -> x.same(0, 1));
        add(list, "same(1, 0)", LARGE, x -> x.same(1, 0));
        add(list, "same(0, 8), large, too", UNKNOWN, x -> x.same(0, 8));
        add(list, "same(8, 0), large, too", UNKNOWN, x -> x.same(8, 0));
        add(list, "turns(0)", LARGE, x -> x.turns(0));
        add(list, "order(0, 1)", LARGE, x -> x.order(0, 1));
        add(list, "order(0, 0), large, too", OUTSIDE, x -> x.order(0, 0));
        add(list, "order(0, 25), large, too", OUTSIDE, x -> x.order(0, 25));
        add(list, "order(8, 25), outside, too", UNKNOWN, x -> x.order(8, 25));
        add(list, "table(0, 1, 1)", LARGE, x -> x.table(0, 1, 1));
        add(list, "table(0, 1, 5), large, too", OUTSIDE, x -> x.table(0, 1, 5));
        add(list, "table(8, 1, 5), outside, too", UNKNOWN, x -> x.table(8, 1, 5));
        add(list, "character(0, 1)", LARGE, x -> x.character(0, 1));
        add(list, "character(0, 5), large, too", OUTSIDE, x -> x.character(0, 5));
        add(list, "character(8, 5), outside, too", UNKNOWN, x -> x.character(8, 5));
        add(list, "length(0, 1)", LARGE, x -> x.length(0, 1));
        add(list, "length(0, 25), large, too", OUTSIDE, x -> x.length(0, 25));
        add(list, "length(8, 25), outside, too", UNKNOWN, x -> x.length(8, 25));
        add(list, "sort(0, 1)", LARGE, x -> x.sort(0, 1));
        add(list, "sort(0, 13), large, too", OUTSIDE, x -> x.sort(0, 13));
        add(list, "sort(8, 13), outside, too", UNKNOWN, x -> x.sort(8, 13));
        add(list, "law(5, 0)", UNKNOWN, x -> x.law(5, 0));
        add(list, "carry(0, 1, 4, 0)", OUTSIDE, x -> x.carry(0, 1, 4, 0));
        add(list, "carry(0, 1, 3, 3)", OUTSIDE, x -> x.carry(0, 1, 3, 3));
        add(list, "carry(0, 12, 4, 3), outside, too", UNKNOWN, x -> x.carry(0, 12, 4, 3));
        add(list, "carry(12, 0, 4, 3), outside, too", UNKNOWN, x -> x.carry(12, 0, 4, 3));
        add(list, "fewest(0, 3, 0)", LARGE, x -> x.fewest(0, 3, 0));
        add(list, "fewest(0, 4, 0), large, too", OUTSIDE, x -> x.fewest(0, 4, 0));
        add(list, "fewest(0, 3, 3), large, too", OUTSIDE, x -> x.fewest(0, 3, 3));
        add(list, "fewest(8, 4, 3), outside, too", UNKNOWN, x -> x.fewest(8, 4, 3));
        return list;
    }

    private static List<Asked> refused() {
        List<Asked> list = refusedRings();
        list.addAll(refusedPlans());
        list.addAll(refusedDeeds());
        return list;
    }

    private void theFirstRefusal() {
        due.says("REFUSALS, of several the first in this order");
        SkinTwists x = crowded();
        for (Asked asked : refused()) {
            due.is(asked.name, asked.call.on(x), asked.want);
        }
        x.drop();
        due.is("room for the draft", x.ring(), 11);
        due.is("ring() of twelve and of nothing", x.ring(), NOT);
    }

    private void refusedChangesNothing() {
        due.says("What is refused changes nothing.");
        List<Long> untouched = seen(crowded());
        due.is("the draft was seen", untouched.get(untouched.size() - 1), 4);
        for (Asked asked : refused()) {
            SkinTwists x = crowded();
            due.is(asked.name, asked.call.on(x), asked.want);
            due.is("as it was behind " + asked.name, seen(x).equals(untouched) ? 1 : 0, 1);
        }
        SkinTwists empty = new SkinTwists();
        due.is("drop() of none", empty.drop(), NOT);
        due.is("ring() of nothing", empty.ring(), NOT);
        due.is("no ring", empty.count(1), 0);
        due.is("no letter", empty.count(2), 0);
        textThatIsFilledInPart();
    }

    private void textThatIsFilledInPart() {
        SkinTwists x = new SkinTwists();
        Due.feed(x, " ".repeat(118) + "a");
        due.is("a feed of more than there is room for", x.feed(2, 0x3132L), FULL);
        due.is("not one byte of it", x.count(4), 119);
        due.is("the last byte", x.feed(1, 0x32L), 120);
        due.is("the text", x.read(0), 1);
        due.is("its twist", x.twist(0, 0), 2);
    }

    private void questionsChangeNothing() {
        due.says("Nothing is promised beyond the answers and state changes described above");
        List<Long> untouched = seen(crowded());
        List<Call> questions = new ArrayList<>();
        questions.add(x -> x.told(3, 2) + x.at(3, 0) + x.meets(0, 1) + x.one(0, 1) + x.heap(1));
        questions.add(x -> x.count(0) + x.fault() + x.twist(1, 0) + x.image(1, 1, 0));
        questions.add(x -> x.carried(1, 0, 1) + x.meetsThen(1, 0, 1) + x.same(1, 3) + x.turns(1));
        questions.add(x -> x.order(1, 24) + x.table(1, 1, 2) + x.character(1, 4) + x.length(1, 3));
        questions.add(x -> x.sort(1, 3) + x.law(0, 2) + x.carry(0, 1, 3, 0) + x.fewest(1, 3, 0));
        for (int k = 0; k < questions.size(); k++) {
            SkinTwists x = crowded();
            questions.get(k).on(x);
            due.is("as it was behind questions " + k, seen(x).equals(untouched) ? 1 : 0, 1);
        }
    }

    /** By plan 0 letter 1 has 400 letters and 2 has 247, by plan 1 they have 401 and 248. */
    private static SkinTwists nearLarge() {
        SkinTwists x = Made.plans(1, Made.textOfLengths(400, 247), Made.textOfLengths(401, 248));
        Due.ring(x, 1);
        Due.ring(x, 2);
        return x;
    }

    private void rowsOfFourHundred() {
        due.says("LARGE (some row would have more than 400 letters)");
        SkinTwists x = nearLarge();
        due.is("image of 400", x.image(0, 1, NONE), 400);
        due.is("the first of 400", x.image(0, 1, 0), 1);
        due.is("the last of 400", x.image(0, 1, 399), 2);
        due.is("behind the last of 400", x.image(0, 1, 400), 0);
        due.is("carried", x.carried(0, 0, NONE), 400);
        due.is("carried to", x.carried(0, 0, 0), 0);
        due.is("meetsThen", x.meetsThen(0, 0, 0), 217);
        due.is("meetsThen", x.meetsThen(0, 0, 1), 183);
        due.is("same", x.same(0, 0), NONE);
        due.is("same as nothing", x.same(0, 7), 1);
        due.is("turns", x.turns(0), 99);
        due.is("order", x.order(0, 1), NONE);
        due.is("table", x.table(0, 1, 2), 217);
        due.is("character", x.character(0, 1), 183 + 134);
        due.is("length", x.length(0, 1), 647);
        due.is("sort", x.sort(0, 1), 2);
        due.is("fewest", x.fewest(0, 1, NONE), NONE);
        due.is("large image", x.image(1, 1, NONE), LARGE);
        due.is("large image", x.image(1, 1, 0), LARGE);
        due.is("image of another letter", x.image(1, 2, NONE), 248);
        due.is("large carried", x.carried(1, 0, NONE), LARGE);
        due.is("large carried to", x.carried(1, 0, 0), LARGE);
        due.is("carried, another ring", x.carried(1, 1, NONE), 248);
        due.is("large meetsThen", x.meetsThen(1, 0, 0), LARGE);
        due.is("meetsThen, another ring", x.meetsThen(1, 1, 1), 47);
        due.is("large same", x.same(1, 7), LARGE);
        due.is("large same", x.same(7, 1), LARGE);
        due.is("large same", x.same(1, 1), LARGE);
        due.is("large turns", x.turns(1), LARGE);
        due.is("large order", x.order(1, 1), LARGE);
        due.is("large table", x.table(1, 1, 2), LARGE);
        due.is("table of another letter", x.table(1, 2, 1), 47);
        due.is("large character", x.character(1, 1), LARGE);
        due.is("large length", x.length(1, 1), LARGE);
        due.is("length of no time", x.length(1, 0), 2);
        due.is("large sort", x.sort(1, 1), LARGE);
        due.is("large fewest", x.fewest(1, 0, NONE), LARGE);
    }

    private void rowsOnTheWay() {
        due.says("LARGE (some row would have more than 400 letters)");
        SkinTwists x = nearLarge();
        for (int p = 0; p < 2; p++) {
            // a plan behind its own turn comes back, by way of its longest rows
            x.turn(4 + p, p);
            x.chain(2 + p, 4 + p, p);
        }
        due.is("image by way of 400", x.image(2, 1, NONE), 1);
        due.is("carried by way of 400", x.carried(2, 0, 0), 1);
        due.is("meetsThen by way of 400", x.meetsThen(2, 0, 1), 1);
        due.is("same by way of 400", x.same(2, 7), NONE);
        due.is("turns by way of 400", x.turns(2), 0);
        due.is("order by way of 400", x.order(2, 24), 1);
        due.is("table by way of 400", x.table(2, 1, 1), 1);
        due.is("character by way of 400", x.character(2, 1), 2);
        due.is("length by way of 400", x.length(2, 24), 2);
        due.is("sort by way of 400", x.sort(2, 12), 0);
        due.is("fewest by way of 400", x.fewest(2, 3, NONE), 0);
        due.is("image by way of 401", x.image(3, 1, NONE), LARGE);
        due.is("carried by way of 401", x.carried(3, 0, 0), LARGE);
        due.is("meetsThen by way of 401", x.meetsThen(3, 0, 1), LARGE);
        due.is("same by way of 401", x.same(3, 7), LARGE);
        due.is("turns by way of 401", x.turns(3), LARGE);
        due.is("order by way of 401", x.order(3, 24), LARGE);
        due.is("table by way of 401", x.table(3, 1, 1), LARGE);
        due.is("character by way of 401", x.character(3, 1), LARGE);
        due.is("length by way of 401", x.length(3, 24), LARGE);
        due.is("sort by way of 401", x.sort(3, 12), LARGE);
        due.is("fewest by way of 401", x.fewest(3, 3, NONE), LARGE);
        due.is("image of another letter", x.image(3, 2, NONE), 1);
    }

    private void ringsOfFourHundred() {
        due.says("LARGE (some row would have more than 400 letters)");
        // each letter 1 becomes 8 letters, each letter 2 becomes 5
        SkinTwists x = Made.plans(1, "(a1b1-)2");
        due.is("ring of 53", Due.ring(x, Made.evenRow(45, 8)), 0);
        due.is("ring of 55", Due.ring(x, Made.evenRow(42, 13)), 1);
        due.is("it is simple", x.told(0, 3), 1);
        due.is("it is simple", x.told(1, 3), 1);
        due.is("carried to 400", x.carried(0, 0, NONE), 8 * 45 + 5 * 8);
        due.is("carried to 401", x.carried(0, 1, NONE), LARGE);
        due.is("it meets", x.meetsThen(0, 0, 0), 45 * (3 * 45 + 2 * 8) - 8 * (5 * 45 + 3 * 8));
        due.is("large", x.meetsThen(0, 1, 0), LARGE);
    }

    private void manyCalls() {
        due.says("An object is used for at most 512 calls after it has been made; what later calls answer is free.");
        SkinTwists x = new SkinTwists();
        for (int k = 0; k < 127; k++) {
            due.is("call " + (4 * k + 1), x.letter(4), 1);
            due.is("call " + (4 * k + 2), x.letter(-4), 0);
            due.is("call " + (4 * k + 3), x.feed(1, 0x20L), 1);
            due.is("call " + (4 * k + 4), x.read(k % 8), 0);
        }
        due.is("call 509", x.letter(3), 1);
        due.is("call 510", x.letter(4), 2);
        due.is("call 511", x.ring(), 0);
        due.is("call 512", x.at(0, 1), 4);
    }
}
