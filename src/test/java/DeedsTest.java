/** Chapter 4 of the document and promises 21 to 30, sentence by sentence, at their bounds. */
public final class DeedsTest {
    private static final int NONE = -1, UNKNOWN = -1001, OUTSIDE = -1002, LARGE = -1005;

    private final Due due = new Due();

    public static void main(String[] args) {
        DeedsTest test = new DeedsTest();
        test.theFirstLetterThatDiffers();
        test.same();
        test.turnsUpToFive();
        test.turnsOfRims();
        test.sixTurnsAreNone();
        test.orderWithin();
        test.orderLooksAt();
        test.table();
        test.character();
        test.length();
        test.sortByOrder();
        test.sortByRings();
        test.sortByLargeRings();
        test.sortByLengths();
        test.sortLooksAt();
        test.law();
        test.carryOfNone();
        test.carryWithin();
        test.carryTheFirst();
        test.carryByEachTwist();
        test.carryLeavesOutLarge();
        test.carryBounds();
        test.fewestWithin();
        test.fewestTheFirst();
        test.fewestOfEachTwist();
        test.fewestBounds();
        test.due.end("DeedsTest");
    }

    private void theFirstLetterThatDiffers() {
        due.says("Whether two PLANS do THE SAME: NONE if so, else the first LETTER that differs. UNKNOWN, LARGE.");
        String[] texts = {"b1", "a1", "b2", "a2", "b3", "a3"};
        for (int letter = 1; letter <= 6; letter++) {
            SkinTwists x = Made.plans(3, texts[letter - 1], texts[letter - 1] + "a3a3");
            due.is("from nothing", x.same(0, 7), letter);
            due.is("from nothing", x.same(7, 0), letter);
            due.is("the last letter", x.same(0, 1), 6);
        }
        // rows that differ at their end alone, and rows of which one is the other's beginning
        SkinTwists x = Made.plans(1, "a1a1", "a1", "a1-", "a1a1-");
        due.is("longer", x.same(0, 1), 2);
        due.is("shorter", x.same(1, 0), 2);
        due.is("at the end", x.same(1, 2), 2);
        due.is("nothing at all", x.same(3, 7), NONE);
        // rows of one letter: 1 becomes -2
        Due.read(x, 0, "a1b1");
        due.is("at the beginning", x.same(0, 7), 1);
        due.is("at the beginning", x.same(7, 0), 1);
    }

    private void same() {
        due.says("Two PLANS do THE SAME, if IMAGES of all LETTERS are.");
        SkinTwists x = Made.plans(3, "b2c2b2", "c2b2c2", "a1a2a3", "a3a2a1", "c1c2", "c2c1", "a3-a3");
        due.is("three", x.same(0, 1), NONE);
        due.is("apart", x.same(2, 3), NONE);
        due.is("apart", x.same(4, 5), NONE);
        due.is("there and back", x.same(6, 7), NONE);
        due.is("itself", x.same(4, 4), NONE);
        due.is("both empty", x.same(7, 7), NONE);
        due.is("unknown", x.same(8, 0), UNKNOWN);
        due.is("unknown", x.same(0, -1), UNKNOWN);
        // a later letter may be large, where an earlier one differs already
        SkinTwists y = Made.plans(2, "(a2b2-)7", "b1");
        due.is("large", y.same(0, 1), LARGE);
        due.is("large", y.same(1, 0), LARGE);
        due.is("unknown ahead of large", y.same(0, 8), UNKNOWN);
    }

    private void turnsUpToFive() {
        due.says("A PLAN is m FULL TURNS (m -5 .. 5), if each LETTER x becomes THE RIM m times, x, "
                + "THE RIM BACK m times (m below 0: BACK ahead).");
        SkinTwists x = Made.plans(1, "(a1b1)6", "(b1-a1-)6");
        for (int p = 0; p < 2; p++) {
            int sign = p == 0 ? -1 : 1;
            x.chain(2, 7, 7);
            due.is("no turn", x.turns(2), 0);
            for (int m = 1; m <= 5; m++) {
                due.is("twists", x.chain(2, 2, p), 12 * m);
                due.is("turns", x.turns(2), sign * m);
            }
        }
        due.is("one letter of a turn", x.image(0, 2, NONE), 9);
        int[] want = {2, 1, -2, -1, 2, 1, 2, -1, -2};
        for (int i = 0; i < 9; i++) {
            due.is("letter " + i, x.image(0, 2, i), want[i]);
        }
        due.is("there and back", x.chain(3, 0, 1), 24);
        due.is("there and back", x.turns(3), 0);
        due.is("unknown", x.turns(8), UNKNOWN);
        due.is("unknown", x.turns(-1), UNKNOWN);
    }

    private void turnsOfRims() {
        due.says("THE RIM is the ROW 1, 2, -1, -2, 3, 4, -3, -4 and so on.");
        SkinTwists x = Made.plans(2, "(a1b1c1b2)9a1b1c1b2", "(b2-c1-b1-a1-)9b2-c1-b1-a1-", "(a1b1)6", "a1");
        due.is("two handles", x.turns(0), -1);
        due.is("two handles, the other way", x.turns(1), 1);
        due.is("round one handle of two", x.turns(2), 99);
        due.is("none", x.turns(3), 99);
        // plans that move one letter alone are no turns
        String[] texts = {"b1", "a1", "b2", "a2"};
        for (int letter = 1; letter <= 4; letter++) {
            Due.read(x, 3, texts[letter - 1]);
            due.is("it moves " + letter, x.same(3, 7), letter);
            due.is("it moves " + letter, x.turns(3), 99);
            x.chain(4, 3, 1);
            due.is("a turn that moves " + letter, x.turns(4), 99);
        }
        int[] want = {1, 2, -1, -2, 3, 4, -3, -4, 2, 4, 3, -4, -3, 2, 1, -2, -1};
        due.is("letter 2", x.image(1, 2, NONE), want.length);
        for (int i = 0; i < want.length; i++) {
            due.is("letter " + i, x.image(1, 2, i), want[i]);
        }
        SkinTwists y = Made.plans(3, "a1b1c1b2c2b3", "(a1b1c1b2c2b3)7");
        due.is("three handles", y.order(0, 14), 14);
        due.is("half a turn", y.turns(1), 99);
        due.is("half a turn twice", y.order(1, 2), 2);
    }

    private void sixTurnsAreNone() {
        due.says("A PLAN is m FULL TURNS (m -5 .. 5)");
        SkinTwists x = Made.plans(1, "(a1b1)5", "(b1-a1-)5", "(a1b1)7", "(b1-a1-)7");
        due.is("five turns", x.order(0, 24), 6);
        due.is("five turns, the other way", x.order(1, 24), 6);
        due.is("seven turns", x.order(2, 24), NONE);
        due.is("seven turns, the other way", x.order(3, 24), NONE);
        SkinTwists y = Made.plans(2, "(a1b1c1b2)9(a1b1c1b2)3", "(b2-c1-b1-a1-)9(b2-c1-b1-a1-)3", "(a1b1c1b2)6");
        due.is("six turns", y.order(0, 12), NONE);
        due.is("six turns, the other way", y.order(1, 12), NONE);
        due.is("three turns", y.order(2, 12), 5);
        due.isNot("six turns", y.sort(0, 12), 0);
    }

    private void orderWithin() {
        due.says("ORDER: the least k (1 up to a bound) for which the PLAN, k times, is FULL TURNS.");
        String[] texts = {"", "(a1b1)6", "(a1b1)3", "(a1b1)2", "a1b1a1", "a1b1", "b1-a1-"};
        int[] want = {1, 1, 2, 3, 4, 6, 6};
        SkinTwists x = Made.plans(1, texts);
        for (int p = 0; p < texts.length; p++) {
            due.is("at its bound " + p, x.order(p, want[p]), want[p]);
            due.is("within 24 " + p, x.order(p, 24), want[p]);
            if (want[p] > 1) {
                due.is("below its bound " + p, x.order(p, want[p] - 1), NONE);
                due.is("within 1 " + p, x.order(p, 1), NONE);
            }
        }
        due.says("ORDER within n (1 .. 24); NONE. UNKNOWN, OUTSIDE, LARGE (if a time that is looked at has it).");
        due.is("no time", x.order(0, 0), OUTSIDE);
        due.is("25", x.order(0, 25), OUTSIDE);
        due.is("unknown ahead of outside", x.order(8, 25), UNKNOWN);
        Due.read(x, 7, "a1");
        due.is("never", x.order(7, 24), NONE);
    }

    private void orderLooksAt() {
        due.says("LARGE (if a time that is looked at has it)");
        // letter 2 has 1 more than 17 letters for each time: 392 behind 23 times, 409 behind 24
        SkinTwists x = Made.plans(1, "(a1)9(a1)8", "((a1)7)3", "((a1)5)4", "((a1b1)5)6", "a1b1-");
        due.is("23 times", x.order(0, 23), NONE);
        due.is("24 times", x.order(0, 24), LARGE);
        due.is("400 letters", x.order(1, 19), NONE);
        due.is("421 letters", x.order(1, 20), LARGE);
        due.is("381 letters", x.order(2, 19), NONE);
        due.is("401 letters", x.order(2, 20), LARGE);
        // five turns at once; ten times five would be large, and are not looked at
        due.is("at once", x.order(3, 24), 1);
        due.is("ten times is large", x.length(3, 10), LARGE);
        due.is("six times", x.order(4, 6), NONE);
        due.is("seven times", x.order(4, 7), LARGE);
        due.is("outside ahead of large", x.order(4, 25), OUTSIDE);
    }

    private void table() {
        due.says("TABLE: of LETTERS x and y: how often y stands in the IMAGE of x, less its OPPOSITE.");
        SkinTwists x = Made.plans(3, "c2", "c2-", "((a1)6)9a1a1a1a1a1a1", "");
        int[][] want = {
            {1, 0, 0, 0, 0, 0}, {0, 1, 0, 0, 0, 0}, {0, 0, 1, 0, 0, 0},
            {0, 0, 1, 1, -1, 0}, {0, 0, 0, 0, 1, 0}, {0, 0, -1, 0, 1, 1}
        };
        for (int a = 1; a <= 6; a++) {
            for (int b = 1; b <= 6; b++) {
                int entry = want[a - 1][b - 1];
                due.is("table " + a + " " + b, x.table(0, a, b), entry);
                due.is("the other way " + a + " " + b, x.table(1, a, b), a == b ? entry : -entry);
                due.is("of nothing " + a + " " + b, x.table(3, a, b), a == b ? 1 : 0);
            }
        }
        due.is("sixty", x.table(2, 2, 1), 60);
        due.is("no letter", x.table(0, 0, 1), OUTSIDE);
        due.is("no letter", x.table(0, 1, 0), OUTSIDE);
        due.is("an opposite", x.table(0, -1, 1), OUTSIDE);
        due.is("an opposite", x.table(0, 1, -1), OUTSIDE);
        due.is("above", x.table(0, 7, 1), OUTSIDE);
        due.is("above", x.table(0, 1, 7), OUTSIDE);
        due.is("unknown ahead of outside", x.table(8, 7, 7), UNKNOWN);
    }

    private void character() {
        due.says("CHARACTER: numbers e 0 to 2 g: e 0 is 1; e k: the sum of all k by k corners' determinants of TABLE");
        long[][] empty = {{1, 2, 1}, {1, 4, 6, 4, 1}, {1, 6, 15, 20, 15, 6, 1}};
        long[][] chains = {{1, 1, 1}, {1, 1, 1, 1, 1}, {1, 1, 1, 1, 1, 1, 1}};
        String[] texts = {"a1b1", "a1b1c1b2", "a1b1c1b2c2b3"};
        for (int g = 1; g <= 3; g++) {
            SkinTwists x = Made.plans(g, "", texts[g - 1]);
            for (int k = 0; k <= 2 * g; k++) {
                due.is("e " + k + " of nothing", x.character(0, k), empty[g - 1][k]);
                due.is("e " + k + " of a chain", x.character(1, k), chains[g - 1][k]);
            }
            due.is("e " + (2 * g + 1), x.character(0, 2 * g + 1), OUTSIDE);
            due.is("e -1", x.character(0, -1), OUTSIDE);
            due.is("unknown ahead of outside", x.character(8, -1), UNKNOWN);
        }
        // of three handles apart: the product of three of 1, t, 1
        SkinTwists x = Made.plans(3, "a1b1-a2a2b2-a3a3a3b3-");
        long[] want = {1, 12, 50, 84, 50, 12, 1};
        for (int k = 0; k <= 6; k++) {
            due.is("e " + k + " of three apart", x.character(0, k), want[k]);
        }
        SkinTwists y = Made.plans(1, Made.textOfLengths(400, 247));
        due.is("of large numbers, e 1", y.character(0, 1), 183 + 134);
        due.is("of large numbers, e 2", y.character(0, 2), 1);
    }

    private void length() {
        due.says("LENGTH k: LETTERS of IMAGES of all LETTERS together, the PLAN done k times.");
        SkinTwists x = Made.plans(1, "b1a1", "(a1)9(a1)8", "((a1b1)5)6", "(a1b1-)7");
        int[] want = {2, 5, 5, 8, 11, 13, 16, 19};
        for (int k = 0; k < want.length; k++) {
            due.is("length " + k, x.length(0, k), want[k]);
        }
        due.says("LENGTH k (0 .. 24). UNKNOWN, OUTSIDE, LARGE.");
        for (int g = 1; g <= 3; g++) {
            SkinTwists y = Made.plans(g, "(a1b1-)7");
            due.is("no time", y.length(0, 0), 2 * g);
            due.is("of nothing 24 times", y.length(1, 24), 2 * g);
        }
        due.is("23 times", x.length(1, 23), 393);
        due.is("24 times", x.length(1, 24), LARGE);
        due.is("25 times", x.length(1, 25), OUTSIDE);
        due.is("-1 times", x.length(1, -1), OUTSIDE);
        due.is("unknown ahead of outside", x.length(8, 25), UNKNOWN);
        due.is("outside ahead of large", x.length(3, 25), OUTSIDE);
        // together they may have more than 400 letters
        due.is("nine times", x.length(2, 9), 359 + 361);
        due.is("ten times", x.length(2, 10), LARGE);
    }

    private void sortByOrder() {
        due.says("SORT by a bound n: 0, if ORDER is within n");
        SkinTwists x = Made.plans(3, "a1b1c1b2c2b3b3", "");
        due.is("at its bound", x.sort(0, 12), 0);
        due.isNot("below its bound", x.sort(0, 11), 0);
        due.is("of nothing", x.sort(1, 1), 0);
        due.is("of nothing", x.sort(1, 12), 0);
        SkinTwists y = Made.plans(1, "a1b1");
        Due.ring(y, 1);
        due.is("order comes ahead of a ring", y.sort(0, 6), 0);
        due.is("below its bound the ring", y.sort(0, 5), 1);
    }

    private void sortByRings() {
        due.says("else 1, if some RING told that is SIMPLE is carried to itself (ONE) by the PLAN done k times, k 1 to n");
        SkinTwists x = Made.plans(1, "a1b1", "a1a1");
        due.is("no ring", x.sort(0, 3), 2);
        due.is("no ring", x.sort(1, 1), 2);
        Due.ring(x, 1);
        // the third time carries it to itself, BACK
        due.is("two times", x.sort(0, 2), 2);
        due.is("three times", x.sort(0, 3), 1);
        due.is("once", x.sort(1, 1), 1);
        x.drop();
        due.is("it is there no more", x.sort(0, 3), 2);
        due.is("it is there no more", x.sort(1, 1), 2);
        Due.ring(x, 1, 1);
        due.is("a power", x.sort(1, 1), 2);
        Due.ring(x, 1, 2, -1, -2);
        due.is("the rim", x.sort(1, 1), 1);
        SkinTwists y = Made.plans(2, "a1");
        Due.ring(y, 1, -3);
        due.is("it is carried to itself", y.carried(0, 0, 0), 1);
        due.is("and is not simple", y.sort(0, 12), 2);
        Due.ring(y, 2);
        due.is("one that is carried elsewhere", y.sort(0, 12), 2);
        for (int r = 2; r < 11; r++) {
            Due.ring(y, 2);
        }
        Due.ring(y, 1);
        due.is("the last of twelve", y.sort(0, 12), 1);
    }

    private void sortByLargeRings() {
        due.says("(a RING whose IMAGE would be LARGE is not)");
        // each letter 1 goes by way of 8 letters, each letter 2 by way of 5, and back
        String text = "(b1a1-)2(a1b1-)2a2";
        SkinTwists x = Made.plans(2, text);
        Due.ring(x, Made.evenRow(45, 8));
        due.is("by way of 400", x.carried(0, 0, 0), 1);
        due.is("by way of 400", x.sort(0, 1), 1);
        x.drop();
        Due.ring(x, Made.evenRow(42, 13));
        due.is("simple", x.told(0, 3), 1);
        due.is("by way of 401", x.carried(0, 0, 0), LARGE);
        due.is("by way of 401", x.sort(0, 1), 2);
        Due.ring(x, 1);
        due.is("another ring", x.sort(0, 1), 1);
    }

    private void sortByLengths() {
        due.says("else 2, if LENGTHS 1 to n rise, each above the one ahead; else 3.");
        // lengths 5, 5, 8, 11, 13 and then a turn
        SkinTwists x = Made.plans(1, "b1a1");
        due.is("one length", x.sort(0, 1), 2);
        due.is("two alike", x.sort(0, 2), 3);
        due.is("they rise too late", x.sort(0, 5), 3);
        // lengths 42, 39
        SkinTwists y = Made.plans(3, "a1b1c1b2c2b3");
        due.is("one length", y.sort(0, 1), 2);
        due.is("they fall", y.sort(0, 2), 3);
        // lengths 20, 23, 31, 32, 24
        SkinTwists z = Made.plans(2, "a1b1c1b2");
        due.is("four rise", z.sort(0, 4), 2);
        due.is("the fifth falls", z.sort(0, 5), 3);
        // lengths 13, 19, 19
        SkinTwists w = Made.plans(2, "a1-b1-c1-");
        due.is("two rise", w.sort(0, 2), 2);
        due.is("the third is alike", w.sort(0, 3), 3);
    }

    private void sortLooksAt() {
        due.says("SORT by n (1 .. 12). UNKNOWN, OUTSIDE, LARGE (if IMAGES of some time 1 to n that it looks at have it: "
                + "those of ORDER up to it, else all).");
        SkinTwists x = Made.plans(1, "((a1b1)5)6", "((a1)6)6", "((a1)6)5a1a1a1", "(a1b1-)7");
        // five turns at once: ten times would be large and is not looked at
        due.is("up to its order", x.sort(0, 12), 0);
        // letter 2 has 397 letters behind 11 times, 433 behind 12
        due.is("eleven times", x.sort(1, 11), 2);
        due.is("twelve times", x.sort(1, 12), LARGE);
        due.is("twelve times, 397 letters", x.sort(2, 12), 2);
        Due.ring(x, 1);
        due.is("a ring it keeps", x.sort(1, 11), 1);
        due.is("a ring it keeps at once, yet all times are looked at", x.sort(1, 12), LARGE);
        due.is("a ring it keeps", x.sort(2, 12), 1);
        due.is("no time", x.sort(0, 0), OUTSIDE);
        due.is("thirteen", x.sort(0, 13), OUTSIDE);
        due.is("outside ahead of large", x.sort(3, 13), OUTSIDE);
        due.is("unknown ahead of outside", x.sort(8, 13), UNKNOWN);
    }

    private void law() {
        due.says("0: one behind the other one does THE SAME as the other way about; "
                + "1: (not 0) one, other, one does THE SAME as other, one, other");
        // the rings of a chain, by name; each meets the next one
        String[][] chains = {{"a1", "b1"}, {"a1", "b1", "c1", "b2", "a2"}, {"a1", "b1", "c1", "b2", "c2", "b3", "a3"}};
        for (int g = 1; g <= 3; g++) {
            String[] chain = chains[g - 1];
            SkinTwists x = Made.skin(g);
            for (int k = 0; k < chain.length; k++) {
                for (int m = 0; m < chain.length; m++) {
                    Due.read(x, 0, chain[k] + chain[m]);
                    int t = x.twist(0, 0) / 2;
                    int u = x.twist(0, 1) / 2;
                    due.is("law of " + chain[k] + " and " + chain[m], x.law(t, u), Math.abs(k - m) == 1 ? 1 : 0);
                }
            }
        }
        due.says("LAW of two TWISTS (by number). UNKNOWN.");
        SkinTwists x = Made.skin(1);
        due.is("the last one", x.law(1, 1), 0);
        due.is("one behind it", x.law(2, 0), UNKNOWN);
        due.is("one behind it", x.law(0, 2), UNKNOWN);
        due.is("one ahead", x.law(-1, 0), UNKNOWN);
        due.is("one ahead", x.law(0, -1), UNKNOWN);
        x.skin(3);
        due.is("a2 meets b2 and c2 meets b2, a2 and c2 do not", x.law(1, 7), 0);
        due.is("c2 and b2", x.law(7, 4), 1);
        due.is("the last one", x.law(7, 7), 0);
        due.is("one behind it", x.law(8, 7), UNKNOWN);
    }

    private void carries(SkinTwists x, int r, int s, int n, int... want) {
        due.is("how many within " + n, x.carry(r, s, n, NONE), want.length);
        for (int i = 0; i < 3; i++) {
            due.is("twist " + i + " within " + n, x.carry(r, s, n, i), i < want.length ? want[i] : NONE);
        }
    }

    private void carriesNot(SkinTwists x, int r, int s, int n) {
        for (int i = NONE; i < 3; i++) {
            due.is("none within " + n, x.carry(r, s, n, i), NONE);
        }
    }

    private void carryOfNone() {
        due.says("The fewest TWISTS (0 .. n, n 0 .. 3) that carry RING r to RING s: how many (NONE)");
        SkinTwists x = new SkinTwists();
        Due.ring(x, 1, 2, 2);
        Due.ring(x, -2, -1, -2);
        Due.ring(x, 3, 3);
        for (int n = 0; n <= 3; n++) {
            carries(x, 0, 0, n);
            carries(x, 0, 1, n);
            carries(x, 2, 2, n);
        }
        carriesNot(x, 0, 2, 0);
        carriesNot(x, 0, 2, 3);
    }

    private void carryWithin() {
        due.says("The fewest TWISTS (0 .. n, n 0 .. 3) that carry RING r to RING s: how many (NONE)");
        SkinTwists x = new SkinTwists();
        int[][] rings = {{2}, {2, 1}, {2, 1, 1}, {2, 1, 1, 1}, {2, 1, 1, 1, 1}, {2, -1, -1, -1}};
        for (int[] ring : rings) {
            Due.ring(x, ring);
        }
        for (int n = 0; n <= 3; n++) {
            for (int s = 1; s <= 4; s++) {
                if (s <= n) {
                    carries(x, 0, s, n, Made.times(s, 0));
                    carries(x, s, 0, n, Made.times(s, 1));
                } else {
                    carriesNot(x, 0, s, n);
                    carriesNot(x, s, 0, n);
                }
            }
        }
        carries(x, 0, 5, 3, 1, 1, 1);
        carries(x, 1, 4, 3, 0, 0, 0);
        carriesNot(x, 5, 4, 3);
    }

    private void carryTheFirst() {
        due.says("i 0 .. 2: the i-th of the first such PLAN (by TWISTS as in twist(), one after the other), "
                + "as in twist(); NONE.");
        SkinTwists x = new SkinTwists();
        int[][] rings = {
            {1}, {2}, {3}, {4}, {2, -1, -2, 3}, {3, -2}, {1, -2, -3, 2, 1, -2, 1}, {2, 3, 4}, {2, 1, 3, 4, 3},
            {-3, -1, -2}, {4, -3, -1, -2, 3, -4, -2, -1, -2}
        };
        for (int[] ring : rings) {
            Due.ring(x, ring);
        }
        carries(x, 0, 1, 2, 0, 4);
        carries(x, 1, 0, 3, 4, 0);
        carries(x, 2, 3, 3, 2, 6);
        carries(x, 3, 2, 3, 6, 2);
        carries(x, 1, 4, 3, 4, 8);
        carries(x, 5, 6, 3, 1, 9, 9);
        carries(x, 7, 8, 3, 0, 2);
        carries(x, 9, 10, 3, 5, 6, 8);
        carriesNot(x, 9, 10, 2);
        carriesNot(x, 0, 2, 3);
        // none, whatever was found ahead of it
        carries(x, 9, 10, 3, 5, 6, 8);
        carries(x, 0, 0, 3);
    }

    private void carryByEachTwist() {
        due.says("(by TWISTS as in twist(), one after the other)");
        for (int g = 1; g <= 3; g++) {
            for (int i = 0; i < g; i++) {
                int a = 2 * i + 1;
                int b = 2 * i + 2;
                byOne(g, 2 * i, new int[] {b}, b, a);
                byOne(g, 2 * i + 1, new int[] {b}, b, -a);
                byOne(g, 2 * (g + i), new int[] {a}, a, -b);
                byOne(g, 2 * (g + i) + 1, new int[] {a}, a, b);
                if (i + 1 < g) {
                    byOne(g, 2 * (2 * g + i), new int[] {b}, -(a + 2), b, a);
                    byOne(g, 2 * (2 * g + i) + 1, new int[] {b}, b, -a, -b, a + 2, b);
                }
            }
        }
    }

    private void byOne(int g, int code, int[] from, int... to) {
        SkinTwists x = Made.skin(g);
        Due.ring(x, from);
        Due.ring(x, to);
        carriesNot(x, 0, 1, 0);
        carries(x, 0, 1, 1, code);
        carries(x, 0, 1, 3, code);
        carries(x, 1, 0, 3, code ^ 1);
    }

    private void carryLeavesOutLarge() {
        due.says("(i = NONE: how many. What would be LARGE on the way is left out.)");
        SkinTwists x = Made.plans(2, "b1c1c1");
        due.is("a long ring", Due.ring(x, Made.joined(Made.times(19, 3, 1), new int[] {3, 3})), 0);
        due.is("one of its ways is large", x.carried(0, 0, NONE), LARGE);
        Due.ring(x, 1);
        due.is("what it becomes by b1-", Due.ring(x, Made.joined(Made.times(19, 3, 1, 2), new int[] {3, 3})), 2);
        carries(x, 0, 0, 3);
        carries(x, 0, 2, 3, 5);
        carries(x, 2, 0, 3, 4);
        carriesNot(x, 0, 1, 3);
        carriesNot(x, 1, 0, 3);
    }

    private void carryBounds() {
        due.says("UNKNOWN, OUTSIDE (n; i NONE .. 2).");
        SkinTwists x = new SkinTwists();
        Due.ring(x, 1);
        due.is("n 0", x.carry(0, 0, 0, NONE), 0);
        due.is("n 3", x.carry(0, 0, 3, NONE), 0);
        due.is("n -1", x.carry(0, 0, -1, NONE), OUTSIDE);
        due.is("n 4", x.carry(0, 0, 4, NONE), OUTSIDE);
        due.is("i 2", x.carry(0, 0, 0, 2), NONE);
        due.is("i 3", x.carry(0, 0, 0, 3), OUTSIDE);
        due.is("i -2", x.carry(0, 0, 0, -2), OUTSIDE);
        due.is("no ring", x.carry(0, 1, 4, 3), UNKNOWN);
        due.is("no ring", x.carry(1, 0, 4, 3), UNKNOWN);
        due.is("no ring", x.carry(-1, 0, 0, 0), UNKNOWN);
        due.is("no ring", x.carry(0, -1, 0, 0), UNKNOWN);
    }

    private void fewest(SkinTwists x, int p, int n, int... want) {
        due.is("how many within " + n, x.fewest(p, n, NONE), want.length);
        for (int i = 0; i < 3; i++) {
            due.is("twist " + i + " within " + n, x.fewest(p, n, i), i < want.length ? want[i] : NONE);
        }
    }

    private void fewestNot(SkinTwists x, int p, int n) {
        for (int i = NONE; i < 3; i++) {
            due.is("none within " + n, x.fewest(p, n, i), NONE);
        }
    }

    private void fewestWithin() {
        due.says("The fewest TWISTS (0 .. n, n 0 .. 3) that do THE SAME as a PLAN, likewise.");
        String[] texts = {"", "c1", "c1c1", "c1c1c1", "c1c1c1c1", "((c1)6)5((c1-)9)3", "((c1)6)5((c1-)6)5", "b2-c1-a2-"};
        SkinTwists x = Made.plans(2, texts);
        int[] most = {0, 1, 2, 3};
        for (int n = 0; n <= 3; n++) {
            for (int p = 0; p < 4; p++) {
                if (most[p] <= n) {
                    fewest(x, p, n, Made.times(most[p], 8));
                } else {
                    fewestNot(x, p, n);
                }
            }
            fewestNot(x, 4, n);
        }
        fewest(x, 5, 3, 8, 8, 8);
        fewest(x, 6, 0);
        fewest(x, 6, 3);
        fewest(x, 7, 3, 7, 3, 9);
        // a plan of two handles that does what none of three twists does
        Due.read(x, 0, "a1b1c1b2");
        fewestNot(x, 0, 3);
    }

    private void fewestTheFirst() {
        due.says("that do THE SAME as a PLAN, likewise");
        SkinTwists x = Made.plans(2, "b1a1b1", "a2a1", "b2a1-a2-", "b2-b1b1-a1", "a2-a1-", "b1-a1-b1-", "c1b1a2", "b1c1b1");
        fewest(x, 0, 3, 0, 4, 0);
        fewest(x, 1, 3, 0, 2);
        fewest(x, 2, 3, 1, 6, 3);
        fewest(x, 3, 3, 0, 7);
        fewest(x, 4, 3, 1, 3);
        fewest(x, 5, 3, 1, 5, 1);
        fewest(x, 6, 3, 2, 8, 4);
        fewest(x, 7, 3, 4, 8, 4);
    }

    private void fewestOfEachTwist() {
        due.says("that do THE SAME as a PLAN, likewise");
        for (int g = 1; g <= 3; g++) {
            SkinTwists x = Made.skin(g);
            String kinds = "abc";
            for (int t = 0; t < 3 * g - 1; t++) {
                String name = "" + kinds.charAt(t / g) + (1 + t % g);
                Due.read(x, 0, name);
                fewestNot(x, 0, 0);
                fewest(x, 0, 1, 2 * t);
                fewest(x, 0, 3, 2 * t);
                Due.read(x, 0, name + "-" + name + name + "-");
                fewest(x, 0, 3, 2 * t + 1);
            }
            // none, whatever was found ahead of it
            fewest(x, 7, 3);
        }
    }

    private void fewestBounds() {
        due.says("UNKNOWN, OUTSIDE, LARGE (of the PLAN).");
        SkinTwists x = Made.plans(1, "", "(a1b1-)7", Made.textOfLengths(400, 247), Made.textOfLengths(401, 248));
        due.is("n 0", x.fewest(0, 0, NONE), 0);
        due.is("n 3", x.fewest(0, 3, NONE), 0);
        due.is("n -1", x.fewest(0, -1, NONE), OUTSIDE);
        due.is("n 4", x.fewest(0, 4, NONE), OUTSIDE);
        due.is("i 2", x.fewest(0, 0, 2), NONE);
        due.is("i 3", x.fewest(0, 0, 3), OUTSIDE);
        due.is("i -2", x.fewest(0, 0, -2), OUTSIDE);
        due.is("no plan", x.fewest(8, 4, 3), UNKNOWN);
        due.is("no plan", x.fewest(-1, 0, 0), UNKNOWN);
        due.is("large", x.fewest(1, 0, NONE), LARGE);
        due.is("outside ahead of large", x.fewest(1, 4, NONE), OUTSIDE);
        due.is("400 letters", x.fewest(2, 3, NONE), NONE);
        due.is("401 letters", x.fewest(3, 0, NONE), LARGE);
    }
}
