/** Chapters 1 and 2 of the document and promises 1 to 11, sentence by sentence, at their bounds. */
public final class RingsTest {
    private static final int NONE = -1, UNKNOWN = -1001, OUTSIDE = -1002, NOT = -1003, FULL = -1004;

    private final Due due = new Due();

    public static void main(String[] args) {
        RingsTest test = new RingsTest();
        test.aNewObject();
        test.aSkin();
        test.aSkinAnew();
        test.whatASkinLeaves();
        test.aRowIsClean();
        test.theDraftIsFull();
        test.aRingIsClosed();
        test.ringsOfSixty();
        test.theDraftIsEmptyThen();
        test.twelveRings();
        test.oneBegunSomewhere();
        test.oneOfSixty();
        test.notOne();
        test.powers();
        test.noPowers();
        test.meetingsOfLetters();
        test.meetingsBegunSomewhere();
        test.meetingsOfLongWays();
        test.alikeForEver();
        test.selfIsHalf();
        test.powersDoNotMeet();
        test.told();
        test.at();
        test.heaps();
        test.heapsOfAll();
        test.whatBarsAHeap();
        test.drop();
        test.count();
        test.due.end("RingsTest");
    }

    private void aNewObject() {
        due.says("Two HANDLES; no RINGS, all PLANS empty.");
        SkinTwists x = new SkinTwists();
        due.is("handles", x.count(0), 2);
        due.is("rings", x.count(1), 0);
        due.is("ring 0", x.told(0, 0), UNKNOWN);
        due.is("draft", x.count(2), 0);
        due.is("text", x.count(4), 0);
        due.is("fault", x.fault(), NONE);
        for (int p = 0; p < 8; p++) {
            due.is("twists of plan " + p, x.twist(p, NONE), 0);
            due.is("twist 0 of plan " + p, x.twist(p, 0), NONE);
            due.is("plan " + p + " turns nothing", x.turns(p), 0);
        }
        // of two handles: the letter 4 is, 5 is not
        due.is("letter 4", x.letter(4), 1);
        due.is("letter 5", x.letter(5), OUTSIDE);
    }

    private void aSkin() {
        due.says("A SKIN has g HANDLES (1 .. 3; 2 at first) and one RIM.");
        SkinTwists x = new SkinTwists();
        due.is("at first", x.count(0), 2);
        due.is("no handle", x.skin(0), OUTSIDE);
        due.is("still two", x.count(0), 2);
        due.is("one", x.skin(1), 2);
        due.is("three", x.skin(3), 6);
        due.is("four", x.skin(4), OUTSIDE);
        due.is("still three", x.count(0), 3);
        due.says("LETTERS are 1 to 2 g; for each its OPPOSITE, the same below 0.");
        for (int g = 1; g <= 3; g++) {
            due.is("skin", x.skin(g), 2 * g);
            for (int letter = 1; letter <= 6; letter++) {
                due.is(letter + " of " + g, x.letter(letter), letter <= 2 * g ? 1 : OUTSIDE);
                due.is("opposite of " + letter + " of " + g, x.letter(-letter), letter <= 2 * g ? 0 : OUTSIDE);
            }
        }
    }

    private void aSkinAnew() {
        due.says("A SKIN with g HANDLES, no RINGS, all PLANS empty: 2 g. OUTSIDE.");
        for (int g = 1; g <= 3; g++) {
            SkinTwists x = new SkinTwists();
            Due.ring(x, 1);
            Due.ring(x, 2);
            for (int p = 0; p < 8; p++) {
                Due.read(x, p, "a1b1");
            }
            due.is("skin", x.skin(g), 2 * g);
            due.is("no rings", x.count(1), 0);
            due.is("no ring 0", x.at(0, 0), UNKNOWN);
            due.is("nothing to drop", x.drop(), NOT);
            for (int p = 0; p < 8; p++) {
                due.is("plan " + p + " is empty", x.twist(p, NONE), 0);
                due.is("plan " + p + " turns nothing", x.same(p, 0), NONE);
            }
            due.is("the next ring is the first", Due.ring(x, 2 * g), 0);
        }
    }

    /** The document does not say what becomes of THE DRAFT, THE TEXT and the latest FAULT; NOTES.md has what was decided. */
    private void whatASkinLeaves() {
        due.says("A SKIN with g HANDLES, no RINGS, all PLANS empty: 2 g.");
        SkinTwists x = Made.skin(3);
        Due.read(x, 0, "a1 ?");
        Due.feed(x, "a3");
        x.letter(6);
        due.is("skin", x.skin(1), 2);
        due.is("no letter of the old skin", x.count(2), 0);
        due.is("nothing of it becomes a ring", x.ring(), NOT);
        due.is("the text", x.count(4), 2);
        due.is("the fault", x.fault(), 3);
        due.is("the text is read as one of the new skin", x.read(0), -12);
    }

    private void aRowIsClean() {
        due.says("each ROW is made CLEAN by taking such two out, again and again");
        SkinTwists x = new SkinTwists();
        int[] there = {1, 2, -1, 4, 4, -3};
        for (int k = 0; k < there.length; k++) {
            due.is("there", x.letter(there[k]), k + 1);
        }
        for (int k = there.length - 1; k >= 0; k--) {
            due.is("and back", x.letter(-there[k]), k);
        }
        due.is("nothing is left", x.count(2), 0);
        due.is("below nothing is the opposite", x.letter(-2), 1);
        due.is("it is another letter", x.letter(-2), 2);
        due.is("it goes", x.letter(2), 1);
        due.is("it goes", x.letter(2), 0);
    }

    private void theDraftIsFull() {
        due.says("OUTSIDE (0, too), FULL: it has 60.");
        SkinTwists x = Made.skin(1);
        due.is("0", x.letter(0), OUTSIDE);
        for (int k = 1; k <= 59; k++) {
            due.is("letter " + k, x.letter(1), k);
        }
        due.is("59 may lose one", x.letter(-1), 58);
        due.is("59", x.letter(1), 59);
        due.is("60", x.letter(2), 60);
        due.is("61", x.letter(1), FULL);
        due.is("the opposite of the last", x.letter(-2), FULL);
        due.is("0 of a full one", x.letter(0), OUTSIDE);
        due.is("60 are left", x.count(2), 60);
        due.is("a ring", x.ring(), 0);
        due.is("of 60", x.told(0, 0), 60);
        due.is("room again", x.letter(1), 1);
    }

    private void aRingIsClosed() {
        due.says("A RING is a CLEAN ROW whose first is not the OPPOSITE of its last "
                + "(else both are taken out, again and again), of 1 to 60 LETTERS, closed");
        SkinTwists x = new SkinTwists();
        due.is("one letter", Due.ring(x, -4), 0);
        due.is("one letter", x.told(0, 0), 1);
        due.is("two alike stay", Due.ring(x, 2, 2), 1);
        due.is("two alike stay", x.told(1, 0), 2);
        due.is("one pair goes", Due.ring(x, 3, 1, -3), 2);
        row(x, 2, 1);
        due.is("two pairs go", Due.ring(x, -1, 3, 1, 2, -3, 1), 3);
        row(x, 3, 1, 2);
        int[] long29 = Made.times(29, 3);
        due.is("29 pairs go from 60", Due.ring(x, Made.joined(long29, new int[] {1, 2}, Made.back(long29))), 4);
        row(x, 4, 1, 2);
        due.is("29 pairs go from 59", Due.ring(x, Made.joined(long29, new int[] {-4}, Made.back(long29))), 5);
        row(x, 5, -4);
        due.is("what is left may be a power", Due.ring(x, 2, 1, 1, 1, -2), 6);
        row(x, 6, 1, 1, 1);
        due.is("it is one", x.told(6, 1), 1);
        due.is("it begins where it was told", Due.ring(x, 4, 3, 2, 1), 7);
        row(x, 7, 4, 3, 2, 1);
    }

    private void row(SkinTwists x, int r, int... want) {
        due.is("letters of ring " + r, x.told(r, 0), want.length);
        for (int i = 0; i < want.length; i++) {
            due.is("letter " + i + " of ring " + r, x.at(r, i), want[i]);
        }
        due.is("none behind", x.at(r, want.length), NONE);
    }

    private void ringsOfSixty() {
        due.says("of 1 to 60 LETTERS, closed");
        SkinTwists x = Made.skin(3);
        int[] sixty = Made.joined(Made.times(29, 6, -5), new int[] {4, 3});
        due.is("sixty", Due.ring(x, sixty), 0);
        row(x, 0, sixty);
        due.is("no power", x.told(0, 1), 0);
        due.is("one with itself", x.one(0, 0), 1);
        due.is("carried by nothing", x.carried(0, 0, NONE), 60);
    }

    private void theDraftIsEmptyThen() {
        due.says("THE DRAFT (it is empty then) becomes a RING (12 at most): its number. "
                + "NOT: nothing is left of it; FULL (it stays).");
        SkinTwists x = new SkinTwists();
        due.is("nothing at all", x.ring(), NOT);
        x.letter(1);
        x.letter(2);
        x.letter(-2);
        x.letter(-1);
        due.is("nothing is left", x.ring(), NOT);
        due.is("no ring", x.count(1), 0);
        x.letter(3);
        due.is("a ring", x.ring(), 0);
        due.is("empty then", x.count(2), 0);
        due.is("not twice", x.ring(), NOT);
        due.is("still one", x.count(1), 1);
    }

    private void twelveRings() {
        due.says("becomes a RING (12 at most): its number.");
        SkinTwists x = new SkinTwists();
        for (int r = 0; r < 12; r++) {
            due.is("ring", Due.ring(x, 1 + r % 4), r);
        }
        due.is("nothing ahead of twelve", x.ring(), NOT);
        x.letter(1);
        x.letter(-3);
        due.is("a thirteenth", x.ring(), FULL);
        due.is("twelve", x.count(1), 12);
        due.is("the draft stays", x.count(2), 2);
        due.is("and goes on", x.letter(2), 3);
        due.is("drop", x.drop(), 11);
        due.is("the twelfth again", x.ring(), 11);
        row(x, 11, 1, -3, 2);
        due.is("the others stay", x.at(10, 0), 3);
    }

    private void oneBegunSomewhere() {
        due.says("Two RINGS are ONE, if one is the other one begun somewhere, or that BACK.");
        int[] ring = {1, 2, 2, -3, 4};
        SkinTwists x = new SkinTwists();
        Due.ring(x, ring);
        for (int k = 0; k < 5; k++) {
            Due.ring(x, Made.begunAt(k, ring));
            Due.ring(x, Made.back(Made.begunAt(k, ring)));
        }
        for (int r = 0; r < 11; r++) {
            for (int s = 0; s < 11; s++) {
                due.is("one " + r + " " + s, x.one(r, s), 1);
            }
        }
        SkinTwists y = new SkinTwists();
        Due.ring(y, 3);
        Due.ring(y, -3);
        Due.ring(y, 4);
        due.is("one letter and its opposite", y.one(0, 1), 1);
        due.is("another letter", y.one(0, 2), 0);
    }

    private void oneOfSixty() {
        due.says("closed: it may begin anywhere.");
        int[] ring = Made.joined(Made.times(58, 1), new int[] {2, 3});
        SkinTwists x = new SkinTwists();
        Due.ring(x, ring);
        int[] places = {1, 2, 29, 30, 31, 58, 59};
        for (int place : places) {
            Due.ring(x, Made.begunAt(place, ring));
        }
        Due.ring(x, Made.back(Made.begunAt(59, ring)));
        Due.ring(x, Made.back(ring));
        for (int r = 0; r < x.count(1); r++) {
            due.is("one 0 " + r, x.one(0, r), 1);
            due.is("one " + r + " 0", x.one(r, 0), 1);
        }
        Due.ring(x, Made.joined(Made.times(57, 1), new int[] {2, 1, 3}));
        due.is("another one of sixty", x.one(0, x.count(1) - 1), 0);
    }

    private void notOne() {
        due.says("Two RINGS are ONE, if one is the other one begun somewhere, or that BACK.");
        SkinTwists x = new SkinTwists();
        Due.ring(x, 1, 2, 3);
        Due.ring(x, 3, 2, 1);
        Due.ring(x, -1, -2, -3);
        Due.ring(x, 1, 2, 3, 1, 2, 3);
        Due.ring(x, 1, 2);
        Due.ring(x, 1, 2, -3);
        for (int r = 1; r < 6; r++) {
            due.is("not one 0 " + r, x.one(0, r), 0);
            due.is("not one " + r + " 0", x.one(r, 0), 0);
        }
        due.is("from its end, each the same", x.one(1, 2), 1);
        due.is("powers may be one", x.one(3, 3), 1);
    }

    private void power(int want, int... row) {
        SkinTwists x = new SkinTwists();
        due.is("a ring of " + row.length, Due.ring(x, row), 0);
        due.is("power of " + row.length, x.told(0, 1), want);
    }

    private void powers() {
        due.says("It is a POWER, if it is a shorter ROW again and again.");
        power(1, 1, 1);
        power(1, -4, -4, -4);
        power(1, 1, 2, 1, 2);
        power(1, Made.times(60, 3));
        power(1, Made.times(59, 3));
        power(1, Made.times(30, 1, -3));
        power(1, Made.times(20, 1, 2, 3));
        power(1, Made.times(2, Made.joined(Made.times(29, 1), new int[] {2})));
        power(1, Made.times(5, Made.joined(Made.times(11, 1), new int[] {2})));
        power(1, Made.times(3, 1, 2, 1, 2, 4));
        // closed, it is a power, though it was not told as one
        power(1, 3, 1, 2, 1, 2, -3);
    }

    private void noPowers() {
        due.says("It is a POWER, if it is a shorter ROW again and again.");
        power(0, 1);
        power(0, 1, 2);
        power(0, 1, 2, 1);
        power(0, 1, 2, 1, 2, 1);
        power(0, 1, 1, 2, 2);
        power(0, 1, 2, 2, 1);
        power(0, Made.joined(Made.times(59, 1), new int[] {2}));
        power(0, Made.joined(new int[] {2}, Made.times(59, 1)));
        power(0, Made.joined(Made.times(29, 1, 2), new int[] {1, 3}));
        power(0, Made.joined(Made.times(2, 1, 2, 3), new int[] {1, 2, 4}));
        power(0, 1, 2, -1, -2, 1, 2);
    }

    private void meetingsOfLetters() {
        due.says("THE ROUND: 1, -2, -1, 2, 3, -4, -3, 4, and so on, closed");
        for (int g = 1; g <= 3; g++) {
            SkinTwists x = Made.skin(g);
            for (int letter = 1; letter <= 2 * g; letter++) {
                Due.ring(x, letter);
                Due.ring(x, -letter);
            }
            for (int r = 0; r < 4 * g; r++) {
                for (int s = 0; s < 4 * g; s++) {
                    // the letters of one handle meet, those of two do not
                    int want = r / 4 == s / 4 && r / 2 != s / 2 ? 1 : 0;
                    due.is("meets " + r + " " + s + " of " + g, x.meets(r, s), want);
                }
            }
        }
    }

    private void meetingsBegunSomewhere() {
        due.says("rows without an end both ways, by places i of u, j of v");
        int[] u = {1, 2, -3, 4};
        int[] v = {2, 2, -3, 1};
        for (int place = 0; place < 4; place++) {
            SkinTwists x = new SkinTwists();
            Due.ring(x, Made.begunAt(place, u));
            Due.ring(x, Made.back(Made.begunAt(place, u)));
            for (int k = 0; k < 4; k++) {
                Due.ring(x, Made.begunAt(k, v));
                Due.ring(x, Made.back(Made.begunAt(k, v)));
            }
            for (int s = 2; s < 10; s++) {
                due.is("meets 0 " + s, x.meets(0, s), 4);
                due.is("meets 1 " + s, x.meets(1, s), 4);
                due.is("meets " + s + " 0", x.meets(s, 0), 4);
            }
            due.is("u with its back", x.meets(0, 1), 6);
            due.is("v with its back", x.meets(2, 9), 2);
        }
    }

    private void meetingsOfLongWays() {
        due.says("from there on both have L LETTERS alike, and then c and d, unlike");
        // of one handle: simple rings meet by their sums; they run along one another for long, more than once round
        int[][] sums = {{1, 0}, {0, 1}, {1, 1}, {59, 1}, {1, 59}, {43, 1}, {29, 30}, {30, 29}, {37, 23}, {34, 21}};
        SkinTwists x = Made.skin(1);
        for (int[] sum : sums) {
            Due.ring(x, Made.evenRow(sum[0], sum[1]));
        }
        for (int r = 0; r < sums.length; r++) {
            due.is("simple " + r, x.told(r, 3), 1);
            for (int s = 0; s < sums.length; s++) {
                int want = Math.abs(sums[r][0] * sums[s][1] - sums[r][1] * sums[s][0]);
                due.is("meets " + r + " " + s, x.meets(r, s), want);
            }
        }
        due.is("a long ring that is not simple", Due.ring(x, Made.joined(Made.times(29, 1, 2), new int[] {2, 2})), 10);
        due.is("another one", Due.ring(x, Made.joined(Made.times(28, 1, 2), new int[] {1})), 11);
        due.is("they meet", x.meets(10, 11), 87);
        due.is("they meet", x.meets(11, 10), 87);
    }

    private void alikeForEver() {
        due.says("(where they are alike for ever: not)");
        SkinTwists x = new SkinTwists();
        int[] rim = {1, 2, -1, -2, 3, 4, -3, -4};
        Due.ring(x, rim);
        Due.ring(x, Made.begunAt(3, rim));
        Due.ring(x, Made.back(rim));
        Due.ring(x, 1, -3);
        Due.ring(x, -3, 1);
        Due.ring(x, 3, -1);
        Due.ring(x, 2);
        Due.ring(x, -2);
        for (int r = 0; r < 3; r++) {
            for (int s = 0; s < 3; s++) {
                due.is("a simple ring and itself " + r + " " + s, x.meets(r, s), 0);
                due.is("one that is not " + r + " " + s, x.meets(3 + r, 3 + s), 2);
            }
        }
        due.is("one letter and itself", x.meets(6, 6), 0);
        due.is("one letter and its opposite", x.meets(6, 7), 0);
    }

    private void selfIsHalf() {
        due.says("SELF of a RING that is no POWER: half the MEETINGS of it with itself. "
                + "It is SIMPLE, if it is no POWER and SELF is 0.");
        int[][] rings = {
            {1}, {1, 3}, {1, -3}, {1, 1, 2, 2}, {1, 1, 3, 3}, {1, 2, 3, 4}, Made.joined(Made.times(5, 1, 3), new int[] {1}),
            Made.joined(Made.times(59, 1), new int[] {3}), Made.joined(Made.times(29, 1, -2), new int[] {3, 4}), {2, 2}
        };
        int[] self = {0, 0, 1, 1, 2, 0, 5, 58, 28, NONE};
        SkinTwists x = new SkinTwists();
        for (int r = 0; r < rings.length; r++) {
            due.is("ring", Due.ring(x, rings[r]), r);
            due.is("self of " + r, x.told(r, 2), self[r]);
            due.is("simple " + r, x.told(r, 3), self[r] == 0 ? 1 : 0);
            if (self[r] != NONE) {
                due.is("meets itself " + r, x.meets(r, r), 2 * self[r]);
            }
        }
    }

    private void powersDoNotMeet() {
        due.says("MEETINGS are told of RINGS that are no POWERS.");
        SkinTwists x = new SkinTwists();
        Due.ring(x, 1);
        Due.ring(x, 2, 2);
        Due.ring(x, 3, 3);
        due.is("the first", x.meets(1, 0), NOT);
        due.is("the second", x.meets(0, 1), NOT);
        due.is("both", x.meets(1, 2), NOT);
        due.is("with itself", x.meets(1, 1), NOT);
        due.is("none", x.meets(0, 0), 0);
        due.is("unknown ahead", x.meets(1, 3), UNKNOWN);
    }

    private void told() {
        due.says("Of a RING: what = 0 LETTERS, 1 whether it is a POWER, 2 SELF (NONE of a POWER), 3 SIMPLE (1, 0). "
                + "UNKNOWN, OUTSIDE.");
        SkinTwists x = new SkinTwists();
        due.is("no ring", x.told(0, 0), UNKNOWN);
        Due.ring(x, Made.times(60, 2));
        due.is("letters", x.told(0, 0), 60);
        due.is("power", x.told(0, 1), 1);
        due.is("self of a power", x.told(0, 2), NONE);
        due.is("a power is not simple", x.told(0, 3), 0);
        due.is("below", x.told(0, -1), OUTSIDE);
        due.is("above", x.told(0, 4), OUTSIDE);
        due.is("unknown ahead of outside", x.told(1, 4), UNKNOWN);
        due.is("unknown ahead of outside", x.told(-1, -1), UNKNOWN);
        x.drop();
        due.is("it is there no more", x.told(0, 0), UNKNOWN);
    }

    private void at() {
        due.says("LETTER i of a RING as it was told (made a RING); NONE. UNKNOWN.");
        SkinTwists x = new SkinTwists();
        due.is("no ring", x.at(0, 0), UNKNOWN);
        Due.ring(x, 3, 2, 4, -2, -2, -3);
        due.is("first", x.at(0, 0), 4);
        due.is("last", x.at(0, 1), -2);
        due.is("behind the last", x.at(0, 2), NONE);
        due.is("behind what was told", x.at(0, 5), NONE);
        due.is("ahead of the first", x.at(0, -1), NONE);
        due.is("far ahead", x.at(0, Integer.MIN_VALUE), NONE);
        due.is("far behind", x.at(0, Integer.MAX_VALUE), NONE);
        due.is("unknown ahead of none", x.at(1, -1), UNKNOWN);
        // a shorter ring in the place of a longer one has none of its letters
        x.drop();
        Due.ring(x, 1);
        due.is("first", x.at(0, 0), 1);
        due.is("no second", x.at(0, 1), NONE);
    }

    private void heaps() {
        due.says("HEAP: a SET of RINGS all SIMPLE, no two ONE, MEETINGS of any two 0.");
        SkinTwists x = new SkinTwists();
        due.is("nothing, of no rings", x.heap(0), NONE);
        Due.ring(x, 1);
        Due.ring(x, 3);
        Due.ring(x, 2, -1, -2, 3);
        Due.ring(x, 1, 4, -3, -4);
        Due.ring(x, 1, 2, -1, -2, 3, 4, -3, -4);
        due.is("nothing", x.heap(0), NONE);
        for (int r = 0; r < 5; r++) {
            due.is("one ring", x.heap(1 << r), NONE);
        }
        // no more rings can lie apart on two handles
        due.is("five rings", x.heap(31), NONE);
        due.is("with one that there is not", x.heap(63), UNKNOWN);
        due.is("one that there is not", x.heap(32), UNKNOWN);
        due.is("bit 31", x.heap(Integer.MIN_VALUE), UNKNOWN);
        due.is("bit 31 and others", x.heap(Integer.MIN_VALUE + 31), UNKNOWN);
        due.is("all bits", x.heap(-1), UNKNOWN);
        due.is("all bits but 31", x.heap(Integer.MAX_VALUE), UNKNOWN);
        x.drop();
        due.is("it is there no more", x.heap(31), UNKNOWN);
        due.is("four rings", x.heap(15), NONE);
    }

    private void heapsOfAll() {
        due.says("A SET is a whole number, bit k for k.");
        SkinTwists x = Made.skin(3);
        int[][] rings = {
            {1}, {3}, {5}, {2, -1, -2, 3}, {4, -3, -4, 5}, {1, 2, -1, -2, 3, 4, -3, -4, 5, 6, -5, -6},
            {6}, {4}, {2}, {-5}, {-3}, {-1}
        };
        for (int[] ring : rings) {
            Due.ring(x, ring);
        }
        due.is("six of twelve", x.heap(63), NONE);
        due.is("letters of three handles", x.heap(7 << 6), NONE);
        due.is("their last ones", x.heap(7 << 9), NONE);
        due.is("all twelve", x.heap(4095), 8);
        due.is("the last two", x.heap(3 << 10), NONE);
        due.is("the first and the last", x.heap(1 | 1 << 11), 11);
        due.is("a thirteenth", x.heap(4096), UNKNOWN);
        due.is("all and a thirteenth", x.heap(8191), UNKNOWN);
    }

    private void whatBarsAHeap() {
        due.says("else 13 times the first RING and the second one of the first pair that bars it (by these; "
                + "of one that is not SIMPLE: itself twice; two SIMPLE ones that are ONE or meet)");
        SkinTwists x = new SkinTwists();
        int[][] rings = {{1}, {1, 1}, {3}, {1, -3}, {2}, {-1}, {4}, {4}, {2}, {3}, {-3}, {1, -3}};
        for (int[] ring : rings) {
            Due.ring(x, ring);
        }
        due.is("one that is not simple", x.heap(1 << 3), 13 * 3 + 3);
        due.is("the last one is not simple", x.heap(1 << 11), 13 * 11 + 11);
        due.is("a power", x.heap(1 << 1), 13 + 1);
        due.is("a power that meets the first", x.heap(1 << 4 | 1 << 1), 13 + 1);
        due.is("one that is not simple and meets the first", x.heap(1 << 4 | 1 << 11), 13 * 11 + 11);
        due.is("two that are one, not simple", x.heap(1 << 3 | 1 << 11), 13 * 3 + 3);
        due.is("a pair of the first comes ahead of one behind", x.heap(1 | 1 << 1 | 1 << 4), 4);
        due.is("of two pairs the one with the first second", x.heap(1 | 1 << 4 | 1 << 5), 4);
        due.is("a pair that is one", x.heap(1 | 1 << 5), 5);
        due.is("a pair behind", x.heap(1 | 1 << 6 | 1 << 7), 13 * 6 + 7);
        due.is("ahead of it one that is not simple", x.heap(1 | 1 << 3 | 1 << 6 | 1 << 7), 13 * 3 + 3);
        due.is("the last pair", x.heap(1 << 9 | 1 << 10), 13 * 9 + 10);
        due.is("all", x.heap(4095), 4);
    }

    private void drop() {
        due.says("The last RING is there no more: how many are left. NOT.");
        SkinTwists x = new SkinTwists();
        due.is("none", x.drop(), NOT);
        for (int r = 0; r < 12; r++) {
            Due.ring(x, 1 + r % 4);
        }
        x.letter(2);
        for (int left = 11; left >= 0; left--) {
            due.is("left", x.drop(), left);
            due.is("rings", x.count(1), left);
            due.is("the last one went", x.at(left, 0), UNKNOWN);
        }
        due.is("none", x.drop(), NOT);
        due.is("the draft stays", x.count(2), 1);
        due.is("the next one is the first", x.ring(), 0);
    }

    private void count() {
        due.says("How many: 0 g, 1 RINGS, 2 LETTERS of THE DRAFT, 3 TWISTS that there are, 4 bytes of THE TEXT. OUTSIDE.");
        for (int g = 1; g <= 3; g++) {
            SkinTwists x = Made.skin(g);
            int[] empty = {g, 0, 0, 3 * g - 1, 0};
            for (int what = 0; what < 5; what++) {
                due.is("count " + what + " at first", x.count(what), empty[what]);
            }
            for (int r = 0; r < 12; r++) {
                Due.ring(x, 1);
            }
            for (int k = 0; k < 60; k++) {
                x.letter(2 * g);
            }
            Due.feed(x, " ".repeat(120));
            int[] most = {g, 12, 60, 3 * g - 1, 120};
            for (int what = 0; what < 5; what++) {
                due.is("count " + what + " at most", x.count(what), most[what]);
            }
            due.is("count 5", x.count(5), OUTSIDE);
            due.is("count -1", x.count(-1), OUTSIDE);
        }
    }
}
