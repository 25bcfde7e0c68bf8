/** Each promise of the document: ordinary inputs, the edges that it names, wrong inputs. */
public final class PromisesTest {
    private static final int NONE = -1, UNKNOWN = -1001, OUTSIDE = -1002, NOT = -1003, FULL = -1004, LARGE = -1005;
    private static final int[] FAR = {Integer.MIN_VALUE, -1003, -100, 100, Integer.MAX_VALUE};

    private final Due due = new Due();

    public static void main(String[] args) {
        PromisesTest test = new PromisesTest();
        test.newObject();
        test.skin();
        test.letter();
        test.ring();
        test.told();
        test.at();
        test.meets();
        test.one();
        test.heap();
        test.drop();
        test.count();
        test.feed();
        test.read();
        test.faultsOfTexts();
        test.tooManyTwists();
        test.fault();
        test.twist();
        test.chain();
        test.turn();
        test.image();
        test.carried();
        test.meetsThen();
        test.same();
        test.turns();
        test.order();
        test.table();
        test.character();
        test.length();
        test.sort();
        test.law();
        test.carry();
        test.fewest();
        test.due.end("PromisesTest");
    }

    private void newObject() {
        SkinTwists x = new SkinTwists();
        due.is("1 handles", x.count(0), 2);
        due.is("1 rings", x.count(1), 0);
        due.is("1 draft", x.count(2), 0);
        due.is("1 twists", x.count(3), 5);
        due.is("1 text", x.count(4), 0);
        due.is("1 fault", x.fault(), NONE);
        for (int p = 0; p < 8; p++) {
            due.is("1 plan " + p, x.twist(p, NONE), 0);
        }
    }

    private void skin() {
        SkinTwists x = new SkinTwists();
        Due.ring(x, 4);
        Due.read(x, 7, "a2");
        x.letter(4);
        for (int g : new int[] {0, 4, -1, Integer.MIN_VALUE, Integer.MAX_VALUE}) {
            due.is("2 skin " + g, x.skin(g), OUTSIDE);
        }
        due.is("2 refused: handles", x.count(0), 2);
        due.is("2 refused: rings", x.count(1), 1);
        due.is("2 refused: draft", x.count(2), 1);
        due.is("2 refused: plan", x.twist(7, NONE), 1);
        for (int g = 1; g <= 3; g++) {
            due.is("2 skin", x.skin(g), 2 * g);
            due.is("2 handles", x.count(0), g);
            due.is("2 rings", x.count(1), 0);
            due.is("2 draft", x.count(2), 0);
            due.is("2 twists", x.count(3), 3 * g - 1);
            due.is("2 plan", x.twist(7, NONE), 0);
            due.is("2 images", x.image(7, 2 * g, 0), 2 * g);
            due.is("2 last letter", x.letter(-2 * g), 1);
            due.is("2 no letter more", x.letter(2 * g + 1), OUTSIDE);
            Due.ring(x, 1);
            due.is("2 read", Due.read(x, 7, "a" + g), 1);
        }
    }

    private void letter() {
        SkinTwists x = new SkinTwists();
        for (int wrong : new int[] {0, 5, -5, Integer.MIN_VALUE, Integer.MAX_VALUE}) {
            due.is("3 letter " + wrong, x.letter(wrong), OUTSIDE);
        }
        due.is("3 one", x.letter(1), 1);
        due.is("3 two", x.letter(2), 2);
        due.is("3 made clean", x.letter(-2), 1);
        due.is("3 made clean again", x.letter(-1), 0);
        due.is("3 nothing left", x.count(2), 0);
        for (int k = 1; k <= 60; k++) {
            due.is("3 many", x.letter(-4), k);
        }
        due.is("3 full", x.letter(1), FULL);
        due.is("3 full for the opposite, too", x.letter(4), FULL);
        due.is("3 outside comes ahead of full", x.letter(0), OUTSIDE);
        due.is("3 stays", x.count(2), 60);
    }

    private void ring() {
        SkinTwists x = new SkinTwists();
        due.is("4 nothing", x.ring(), NOT);
        x.letter(3);
        x.letter(-3);
        due.is("4 nothing is left", x.ring(), NOT);
        due.is("4 closed", Due.ring(x, 1, 2, 3, -2, -1), 0);
        due.is("4 what is left", x.told(0, 0), 1);
        due.is("4 which", x.at(0, 0), 3);
        due.is("4 draft", x.count(2), 0);
        for (int r = 1; r < 12; r++) {
            due.is("4 number", Due.ring(x, 1, 2), r);
        }
        due.is("4 not comes ahead of full", x.ring(), NOT);
        due.is("4 full", Due.ring(x, 1, 2), FULL);
        due.is("4 the draft stays", x.count(2), 2);
        due.is("4 no ring more", x.count(1), 12);
        x.drop();
        due.is("4 room again", x.ring(), 11);
    }

    private void told() {
        SkinTwists x = new SkinTwists();
        due.is("5 none", x.told(0, 0), UNKNOWN);
        Due.ring(x, 1, -3);
        Due.ring(x, 1, 2, 1, 2);
        Due.ring(x, 2, -1, -2, 3);
        int[][] want = {{2, 0, 1, 0}, {4, 1, NONE, 0}, {4, 0, 0, 1}};
        for (int r = 0; r < 3; r++) {
            for (int what = 0; what < 4; what++) {
                due.is("5 told " + r + " " + what, x.told(r, what), want[r][what]);
            }
            due.is("5 outside", x.told(r, 4), OUTSIDE);
            due.is("5 outside", x.told(r, -1), OUTSIDE);
        }
        for (int far : FAR) {
            due.is("5 unknown " + far, x.told(far, 9), UNKNOWN);
            due.is("5 outside " + far, x.told(0, far), OUTSIDE);
        }
        due.is("5 unknown", x.told(3, 0), UNKNOWN);
    }

    private void at() {
        SkinTwists x = new SkinTwists();
        Due.ring(x, 4, 2, -1, 3, -4);
        due.is("6 first", x.at(0, 0), 2);
        due.is("6 second", x.at(0, 1), -1);
        due.is("6 last", x.at(0, 2), 3);
        due.is("6 behind", x.at(0, 3), NONE);
        due.is("6 ahead", x.at(0, -1), NONE);
        for (int far : FAR) {
            due.is("6 none " + far, x.at(0, far), NONE);
            due.is("6 unknown " + far, x.at(far, 0), UNKNOWN);
        }
        due.is("6 unknown", x.at(1, 0), UNKNOWN);
    }

    private void meets() {
        SkinTwists x = Made.skin(1);
        Due.ring(x, 1);
        Due.ring(x, 2);
        Due.ring(x, 1, 1, 2);
        Due.ring(x, 1, 1, 1, -2);
        Due.ring(x, 2, 2);
        Due.ring(x, -2, -1, -1);
        // on one handle rings p, q and r, s meet |p s - q r| times
        int[][] slopes = {{1, 0}, {0, 1}, {2, 1}, {3, -1}};
        for (int r = 0; r < 4; r++) {
            for (int s = 0; s < 4; s++) {
                int want = Math.abs(slopes[r][0] * slopes[s][1] - slopes[r][1] * slopes[s][0]);
                due.is("7 meets " + r + " " + s, x.meets(r, s), want);
            }
        }
        due.is("7 back", x.meets(5, 2), 0);
        due.is("7 power", x.meets(4, 0), NOT);
        due.is("7 power", x.meets(0, 4), NOT);
        due.is("7 unknown ahead of not", x.meets(4, 6), UNKNOWN);
        for (int far : FAR) {
            due.is("7 unknown", x.meets(far, 0), UNKNOWN);
            due.is("7 unknown", x.meets(0, far), UNKNOWN);
        }
    }

    private void one() {
        SkinTwists x = new SkinTwists();
        Due.ring(x, 1, 2, 3);
        Due.ring(x, 3, 1, 2);
        Due.ring(x, -1, -3, -2);
        Due.ring(x, 2, 1, 3);
        Due.ring(x, 1, 2);
        Due.ring(x, 1, 2, 1, 2);
        due.is("8 begun elsewhere", x.one(0, 1), 1);
        due.is("8 back", x.one(0, 2), 1);
        due.is("8 back", x.one(2, 1), 1);
        due.is("8 another", x.one(0, 3), 0);
        due.is("8 shorter", x.one(4, 5), 0);
        due.is("8 a power is one with itself", x.one(5, 5), 1);
        due.is("8 unknown", x.one(0, 6), UNKNOWN);
        for (int far : FAR) {
            due.is("8 unknown", x.one(far, 0), UNKNOWN);
            due.is("8 unknown", x.one(0, far), UNKNOWN);
        }
    }

    private void heap() {
        SkinTwists x = new SkinTwists();
        due.is("9 empty", x.heap(0), NONE);
        due.is("9 unknown", x.heap(1), UNKNOWN);
        Due.ring(x, 1);
        Due.ring(x, 3);
        Due.ring(x, -1);
        Due.ring(x, 2);
        Due.ring(x, 1, -3);
        Due.ring(x, 1, 1);
        due.is("9 apart", x.heap(3), NONE);
        due.is("9 one", x.heap(7), 2);
        due.is("9 they meet", x.heap(9), 3);
        due.is("9 the first pair", x.heap(15), 2);
        due.is("9 not simple", x.heap(16), 13 * 4 + 4);
        due.is("9 a power", x.heap(32), 13 * 5 + 5);
        due.is("9 pairs with one that is not simple do not count", x.heap(16 + 1), 13 * 4 + 4);
        due.is("9 by the first ring", x.heap(16 + 8 + 1), 3);
        due.is("9 empty", x.heap(0), NONE);
        for (int set : new int[] {64, -1, Integer.MIN_VALUE, 1 << 12, Integer.MAX_VALUE}) {
            due.is("9 unknown " + set, x.heap(set), UNKNOWN);
        }
        for (int r = 6; r < 12; r++) {
            Due.ring(x, 4);
        }
        due.is("9 the last ones", x.heap(3 << 10), 13 * 10 + 11);
        due.is("9 unknown", x.heap(1 << 12), UNKNOWN);
    }

    private void drop() {
        SkinTwists x = new SkinTwists();
        due.is("10 none", x.drop(), NOT);
        Due.ring(x, 1);
        Due.ring(x, 2);
        due.is("10 one left", x.drop(), 1);
        due.is("10 the last one went", x.at(0, 0), 1);
        due.is("10 it is there no more", x.at(1, 0), UNKNOWN);
        due.is("10 none left", x.drop(), 0);
        due.is("10 none", x.drop(), NOT);
    }

    private void count() {
        SkinTwists x = Made.skin(3);
        Due.ring(x, 6);
        x.letter(1);
        x.letter(2);
        Due.feed(x, "a1 ");
        int[] want = {3, 1, 2, 8, 3};
        for (int what = 0; what < 5; what++) {
            due.is("11 count " + what, x.count(what), want[what]);
        }
        due.is("11 outside", x.count(5), OUTSIDE);
        due.is("11 outside", x.count(-1), OUTSIDE);
        for (int far : FAR) {
            due.is("11 outside", x.count(far), OUTSIDE);
        }
    }

    private void feed() {
        SkinTwists x = new SkinTwists();
        for (int n : new int[] {0, 9, -1, Integer.MIN_VALUE, Integer.MAX_VALUE}) {
            due.is("12 feed " + n, x.feed(n, 0), OUTSIDE);
        }
        due.is("12 eight", x.feed(8, 0x6131206232206331L), 8);
        due.is("12 two of a long", x.feed(2, 0x7878786132L), 10);
        due.is("12 read", x.read(0), 4);
        int[] want = {0, 6, 8, 2};
        for (int i = 0; i < 4; i++) {
            due.is("12 the highest first " + i, x.twist(0, i), want[i]);
        }
        for (int k = 1; k <= 14; k++) {
            due.is("12 blanks", x.feed(8, 0x2020202020202020L), 8 * k);
        }
        due.is("12 seven", x.feed(7, 0x20202020202020L), 119);
        due.is("12 full", x.feed(2, 0x6131L), FULL);
        due.is("12 outside ahead of full", x.feed(9, 0), OUTSIDE);
        due.is("12 the last one", x.feed(1, 0xffffffffffffff20L), 120);
        due.is("12 full", x.feed(1, 32), FULL);
        due.is("12 nothing but blanks", x.read(0), 0);
        due.is("12 it is empty then", x.count(4), 0);
    }

    private void read() {
        SkinTwists x = new SkinTwists();
        due.is("13 nothing", x.read(0), 0);
        Due.feed(x, " a 1 - b2( c1- )2 ");
        for (int wrong : new int[] {-1, 8, Integer.MIN_VALUE, Integer.MAX_VALUE}) {
            due.is("13 unknown " + wrong, x.read(wrong), UNKNOWN);
        }
        due.is("13 the text stays", x.count(4), 18);
        due.is("13 read", x.read(7), 4);
        due.is("13 the text is empty", x.count(4), 0);
        int[] want = {1, 6, 9, 9, NONE};
        for (int i = 0; i < want.length; i++) {
            due.is("13 twist " + i, x.twist(7, i), want[i]);
        }
        due.is("13 a fault", Due.read(x, 7, "a1 a3"), -12);
        due.is("13 the plan is as it was", x.twist(7, NONE), 4);
        due.is("13 the text is empty", x.count(4), 0);
        due.is("13 brackets in brackets", Due.read(x, 7, "((((a1)2)2)3)5"), 60);
        due.is("13 empty brackets", Due.read(x, 7, "()9((()1)2)3b1"), 1);
        due.is("13 a new plan", Due.read(x, 7, ""), 0);
        due.is("13 it is empty", x.twist(7, NONE), 0);
    }

    private void reads(int g, String text, int want, int place) {
        SkinTwists x = Made.skin(g);
        due.is("13 read of " + text, Due.read(x, 3, text), want);
        due.is("14 place in " + text, x.fault(), place);
    }

    private void faultsOfTexts() {
        reads(2, "x", -11, 0);
        reads(2, "a", -11, 1);
        reads(2, "a ", -11, 2);
        reads(2, "aa1", -11, 1);
        reads(2, "a11", -11, 2);
        reads(2, "a1--", -11, 3);
        reads(2, "-a1", -11, 0);
        reads(2, "a-1", -11, 1);
        reads(2, "1", -11, 0);
        reads(2, ")", -11, 0);
        reads(2, "a1)", -11, 2);
        reads(2, "(a1)", -11, 4);
        reads(2, "(a1", -11, 3);
        reads(2, "(a1  ", -11, 5);
        reads(2, "(", -11, 1);
        reads(2, "(a1)a1", -11, 4);
        reads(2, "(a1)-", -11, 4);
        reads(2, "(a1)2-", -11, 5);
        reads(2, "(a1)22", -11, 5);
        reads(2, "(a)2", -11, 2);
        reads(2, "a1\u00e9", -11, 2);
        reads(2, "a1\u0000", -11, 2);
        reads(2, "A1", -11, 0);
        reads(2, "d1", -11, 0);
        reads(2, "a1,", -11, 2);
        reads(2, "a:", -11, 1);
        reads(2, "a/", -11, 1);
        reads(2, "a0", -12, 1);
        reads(2, "b3", -12, 1);
        reads(2, "c2", -12, 1);
        reads(2, "c1 c 9", -12, 5);
        reads(1, "c1", -12, 1);
        reads(1, "c0", -12, 1);
        reads(3, "c2 a3 b3-", 3, NONE);
        reads(3, "c3", -12, 1);
        reads(2, "(a1)0", -12, 4);
        reads(2, "((((a1)1)1)1)1", 1, NONE);
        reads(2, "(((((a1)1)1)1)1)1", -14, 4);
        reads(2, "((((a(", -11, 5);
        reads(2, "(((()1()1)1)1)1(((()1)1)1)1", 0, NONE);
        reads(2, "((((b", -11, 5);
        reads(2, "a1 - - ", -11, 5);
    }

    private void tooManyTwists() {
        String fiftyFour = "(a1b1)9(a1b1-)9(a2b2)9";
        reads(2, fiftyFour + "(c1)6", 60, NONE);
        reads(2, fiftyFour + "(c1)7", -13, 26);
        reads(2, fiftyFour + "(c1)0", -12, 26);
        reads(2, fiftyFour + "(c1)6a1", -13, 27);
        reads(2, fiftyFour + "(c1)6 a 1 -", -13, 28);
        reads(2, fiftyFour + "(c1)6()9", 60, NONE);
        reads(2, fiftyFour + "(c1)6(a1)1", -13, 28);
        reads(2, fiftyFour + "((c1)3)2", 60, NONE);
        reads(2, fiftyFour + "((c1)3)3", -13, 29);
        // an item that is broken does not end, so its own byte has the fault
        reads(2, fiftyFour + "(c1)6a9", -12, 28);
        reads(2, fiftyFour + "(c1)6ab", -11, 28);
        reads(2, fiftyFour + "((c1)9)0", -13, 27);
    }

    private void fault() {
        SkinTwists x = new SkinTwists();
        due.is("14 none yet", x.fault(), NONE);
        Due.read(x, 0, "a1 a9");
        due.is("14 where", x.fault(), 4);
        due.is("14 again", x.fault(), 4);
        Due.feed(x, "a1");
        x.read(8);
        due.is("14 an unknown plan leaves it", x.fault(), 4);
        x.read(0);
        due.is("14 a good text", x.fault(), NONE);
        Due.read(x, 0, "(");
        x.skin(3);
        due.is("14 the latest read is still the latest", x.fault(), 1);
    }

    private void twist() {
        SkinTwists x = Made.plans(3, "a3b1-c2");
        due.is("15 how many", x.twist(0, NONE), 3);
        due.is("15 first", x.twist(0, 0), 4);
        due.is("15 second", x.twist(0, 1), 7);
        due.is("15 third", x.twist(0, 2), 14);
        due.is("15 none", x.twist(0, 3), NONE);
        due.is("15 none", x.twist(0, -2), NONE);
        due.is("15 empty", x.twist(1, 0), NONE);
        for (int far : FAR) {
            due.is("15 none", x.twist(0, far), NONE);
            due.is("15 unknown", x.twist(far, 0), UNKNOWN);
        }
        due.is("15 unknown", x.twist(8, NONE), UNKNOWN);
        due.is("15 unknown", x.twist(-1, NONE), UNKNOWN);
    }

    private void chain() {
        SkinTwists x = Made.plans(2, "a1a2", "b1-", "(b2)9(a1)9(c1)9(a2)2");
        due.is("16 chain", x.chain(3, 0, 1), 3);
        due.is("16 first", x.twist(3, 0), 0);
        due.is("16 last", x.twist(3, 2), 5);
        due.is("16 into the second", x.chain(1, 0, 1), 3);
        due.is("16 into the second: first", x.twist(1, 0), 0);
        due.is("16 into the second: last", x.twist(1, 2), 5);
        due.is("16 into the first", x.chain(0, 0, 0), 4);
        due.is("16 twice", x.twist(0, 2), 0);
        due.is("16 full", x.chain(2, 2, 2), 58);
        due.is("16 sixty", Due.read(x, 4, "(a1)2"), 2);
        due.is("16 sixty", x.chain(5, 2, 4), 60);
        due.is("16 above", x.chain(5, 5, 4), FULL);
        due.is("16 above", x.chain(2, 5, 4), FULL);
        due.is("16 refused", x.twist(2, NONE), 58);
        due.is("16 empty", x.chain(7, 6, 6), 0);
        for (int far : new int[] {-1, 8, Integer.MIN_VALUE, Integer.MAX_VALUE}) {
            due.is("16 unknown", x.chain(far, 5, 5), UNKNOWN);
            due.is("16 unknown", x.chain(5, far, 5), UNKNOWN);
            due.is("16 unknown", x.chain(5, 5, far), UNKNOWN);
        }
    }

    private void turn() {
        SkinTwists x = Made.plans(2, "a1b2-c1");
        due.is("17 turn", x.turn(1, 0), 3);
        int[] want = {9, 6, 1, NONE};
        for (int i = 0; i < 4; i++) {
            due.is("17 twist " + i, x.twist(1, i), want[i]);
        }
        due.is("17 in its own place", x.turn(1, 1), 3);
        due.is("17 as it was", x.twist(1, 1), 7);
        due.is("17 empty", x.turn(1, 5), 0);
        due.is("17 empty", x.twist(1, NONE), 0);
        for (int far : new int[] {-1, 8, Integer.MIN_VALUE, Integer.MAX_VALUE}) {
            due.is("17 unknown", x.turn(far, 0), UNKNOWN);
            due.is("17 unknown", x.turn(0, far), UNKNOWN);
        }
    }

    private void image(SkinTwists x, int p, int letter, int... want) {
        due.is("18 size of " + letter + " by " + p, x.image(p, letter, NONE), want.length);
        for (int i = 0; i < want.length; i++) {
            due.is("18 " + i + " of " + letter + " by " + p, x.image(p, letter, i), want[i]);
        }
        due.is("18 behind", x.image(p, letter, want.length), 0);
    }

    private void image() {
        SkinTwists x = Made.plans(2, "a1", "a1-", "b2", "b2-", "c1", "c1-", "a1b1");
        image(x, 0, 1, 1);
        image(x, 0, 2, 2, 1);
        image(x, 1, 2, 2, -1);
        image(x, 2, 3, 3, -4);
        image(x, 3, 3, 3, 4);
        image(x, 4, 1, 1);
        image(x, 4, 2, -3, 2, 1);
        image(x, 4, 3, -3, 2, 1, -2, 3, 2, -1, -2, 3);
        image(x, 4, 4, 4, 2, -1, -2, 3);
        image(x, 5, 2, 2, -1, -2, 3, 2);
        image(x, 5, 3, 2, -1, -2, 3, 2, 1, -2);
        image(x, 5, 4, 4, -3, 2, 1, -2);
        // the last twist comes first
        image(x, 6, 1, -2);
        image(x, 6, 2, 2, 1);
        image(x, 7, 4, 4);
        for (int far : FAR) {
            due.is("18 there is none such", x.image(0, 1, far), 0);
            due.is("18 outside", x.image(0, far, 0), OUTSIDE);
            due.is("18 unknown", x.image(far, 0, 0), UNKNOWN);
        }
        due.is("18 outside", x.image(0, 0, 0), OUTSIDE);
        due.is("18 outside", x.image(0, -1, 0), OUTSIDE);
        due.is("18 outside", x.image(0, 5, 0), OUTSIDE);
        largeImages();
    }

    private void largeImages() {
        SkinTwists x = Made.skin(1);
        // letter 1 has 3, 8, 21, 55, 144, 377, 987 letters by 1 to 7 times a1 b1-
        Due.read(x, 0, "(a1b1-)6");
        due.is("18 not large", x.image(0, 1, NONE), 377);
        due.is("18 not large", x.image(0, 2, NONE), 233);
        Due.read(x, 1, "(a1b1-)6 a1");
        due.is("18 not large", x.image(1, 1, NONE), 377);
        due.is("18 large for another letter", x.image(1, 2, NONE), LARGE);
        Due.read(x, 2, "(a1b1-)7");
        due.is("18 large", x.image(2, 1, NONE), LARGE);
        due.is("18 large", x.image(2, 1, 9000), LARGE);
        due.is("18 outside ahead of large", x.image(2, 3, NONE), OUTSIDE);
        // rows on the way count, though the plan comes back to short ones
        Due.read(x, 3, "(b1a1-)7(a1b1-)7");
        due.is("18 large on the way", x.image(3, 1, NONE), LARGE);
        Due.read(x, 4, "(b1a1-)6(a1b1-)6");
        due.is("18 not large on the way", x.image(4, 1, NONE), 1);
    }

    private void carried() {
        SkinTwists x = Made.plans(2, "a1b1", "(a1b1-)7");
        Due.ring(x, 1);
        Due.ring(x, 2);
        Due.ring(x, 3);
        Due.ring(x, 2, 2);
        due.is("19 how many", x.carried(0, 0, NONE), 1);
        due.is("19 to itself", x.carried(0, 0, 0), 0);
        due.is("19 to the other one", x.carried(0, 0, 1), 1);
        due.is("19 stays", x.carried(0, 2, 2), 1);
        due.is("19 a power", x.carried(0, 3, NONE), 4);
        due.is("19 large", x.carried(1, 0, NONE), LARGE);
        due.is("19 large", x.carried(1, 0, 1), LARGE);
        due.is("19 not large", x.carried(1, 2, 1), 0);
        due.is("19 unknown ahead of large", x.carried(1, 0, 4), UNKNOWN);
        due.is("19 unknown", x.carried(0, 0, -2), UNKNOWN);
        for (int far : FAR) {
            due.is("19 unknown", x.carried(far, 0, 0), UNKNOWN);
            due.is("19 unknown", x.carried(0, far, 0), UNKNOWN);
            due.is("19 unknown", x.carried(0, 0, far), UNKNOWN);
        }
        // as a ring at the end: its row is longer
        SkinTwists y = Made.plans(2, "c1");
        Due.ring(y, 3);
        due.is("19 row", y.image(0, 3, NONE), 9);
        due.is("19 ring", y.carried(0, 0, NONE), 1);
        due.is("19 ring", y.carried(0, 0, 0), 1);
    }

    private void meetsThen() {
        SkinTwists x = Made.plans(1, "a1", "(a1)9", "(a1b1-)7");
        Due.ring(x, 1);
        Due.ring(x, 2);
        Due.ring(x, 2, 2);
        due.is("20 once", x.meetsThen(0, 1, 1), 1);
        due.is("20 nine times", x.meetsThen(1, 1, 1), 9);
        due.is("20 with another", x.meetsThen(1, 1, 0), 1);
        due.is("20 empty", x.meetsThen(7, 1, 0), 1);
        due.is("20 power", x.meetsThen(0, 2, 0), NOT);
        due.is("20 power", x.meetsThen(0, 0, 2), NOT);
        due.is("20 not ahead of large", x.meetsThen(2, 0, 2), NOT);
        due.is("20 large", x.meetsThen(2, 0, 1), LARGE);
        due.is("20 unknown ahead of not", x.meetsThen(0, 2, 3), UNKNOWN);
        for (int far : FAR) {
            due.is("20 unknown", x.meetsThen(far, 0, 0), UNKNOWN);
            due.is("20 unknown", x.meetsThen(0, far, 0), UNKNOWN);
            due.is("20 unknown", x.meetsThen(0, 0, far), UNKNOWN);
        }
    }

    private void same() {
        SkinTwists x = Made.plans(2, "a1", "a1a2", "b2", "a1b1a1", "b1a1b1", "(a2b2-)7", "c1", "");
        due.is("21 itself", x.same(0, 0), NONE);
        due.is("21 the law of two", x.same(3, 4), NONE);
        due.is("21 fourth letter", x.same(0, 1), 4);
        due.is("21 second letter", x.same(0, 7), 2);
        due.is("21 second letter", x.same(6, 0), 2);
        due.is("21 third letter", x.same(2, 7), 3);
        due.is("21 first letter", x.same(3, 7), 1);
        // a refusal comes ahead of an answer, whatever the first letters do
        due.is("21 large", x.same(5, 3), LARGE);
        due.is("21 large", x.same(3, 5), LARGE);
        due.is("21 large", x.same(5, 5), LARGE);
        for (int far : new int[] {-1, 8, Integer.MIN_VALUE, Integer.MAX_VALUE}) {
            due.is("21 unknown", x.same(far, 5), UNKNOWN);
            due.is("21 unknown", x.same(5, far), UNKNOWN);
        }
    }

    private void turns() {
        SkinTwists x = Made.plans(1, "(a1b1)6", "((a1b1)6)2", "((a1b1)6)3", "((a1b1)6)4", "(((a1b1)5)1)6",
                "((a1-b1-)6)4", "a1", "(a1b1-)7");
        due.is("22 one back", x.turns(0), -1);
        due.is("22 two back", x.turns(1), -2);
        due.is("22 three back", x.turns(2), -3);
        due.is("22 four back", x.turns(3), -4);
        due.is("22 five back", x.turns(4), -5);
        due.is("22 four", x.turns(5), 4);
        due.is("22 none", x.turns(6), 99);
        due.is("22 large", x.turns(7), LARGE);
        Due.read(x, 7, "");
        due.is("22 empty", x.turns(7), 0);
        SkinTwists y = Made.plans(2, "(a1b1c1b2)5(a1b1c1b2)5", "(a1b1c1b2)5");
        due.is("22 two handles", y.turns(0), -1);
        due.is("22 half of it", y.turns(1), 99);
        for (int far : new int[] {-1, 8, Integer.MIN_VALUE, Integer.MAX_VALUE}) {
            due.is("22 unknown", x.turns(far), UNKNOWN);
        }
    }

    private void order() {
        SkinTwists x = Made.plans(2, "a1b1c1b2", "a1", "", "(a1b1-)7", "a1b1c1b2b2");
        due.is("23 ten", x.order(0, 24), 10);
        due.is("23 ten", x.order(0, 10), 10);
        due.is("23 not within nine", x.order(0, 9), NONE);
        due.is("23 never", x.order(1, 24), NONE);
        due.is("23 at once", x.order(2, 1), 1);
        due.is("23 large", x.order(3, 1), LARGE);
        due.is("23 another chain", x.order(4, 24), 8);
        due.is("23 outside", x.order(3, 0), OUTSIDE);
        due.is("23 outside", x.order(3, 25), OUTSIDE);
        for (int far : FAR) {
            due.is("23 outside", x.order(0, far), OUTSIDE);
            due.is("23 unknown", x.order(far, 0), UNKNOWN);
        }
        // LARGE only if a time that is looked at has it
        SkinTwists y = Made.plans(1, "a1b1-");
        due.is("23 none within six", y.order(0, 6), NONE);
        due.is("23 large at seven", y.order(0, 7), LARGE);
    }

    private void table() {
        SkinTwists x = Made.plans(2, "c1", "(a1b1-)7", "a1a1-a1a1");
        int[][] want = {{1, 0, 0, 0}, {1, 1, -1, 0}, {0, 0, 1, 0}, {-1, 0, 1, 1}};
        for (int a = 1; a <= 4; a++) {
            for (int b = 1; b <= 4; b++) {
                due.is("24 " + a + " " + b, x.table(0, a, b), want[a - 1][b - 1]);
            }
        }
        due.is("24 two", x.table(2, 2, 1), 2);
        due.is("24 large", x.table(1, 1, 1), LARGE);
        due.is("24 its own row is not large", x.table(1, 4, 4), 1);
        due.is("24 outside ahead of large", x.table(1, 1, 5), OUTSIDE);
        for (int wrong : new int[] {0, -1, 5, Integer.MIN_VALUE, Integer.MAX_VALUE}) {
            due.is("24 outside", x.table(0, wrong, 1), OUTSIDE);
            due.is("24 outside", x.table(0, 1, wrong), OUTSIDE);
        }
        due.is("24 unknown", x.table(8, 0, 0), UNKNOWN);
        due.is("24 unknown", x.table(-1, 0, 0), UNKNOWN);
    }

    private void character() {
        SkinTwists x = Made.plans(2, "a1b1c1b2", "", "(a1b1-)7", "a1b1-a2b2-");
        long[] cyclotomic = {1, 1, 1, 1, 1};
        long[] binomial = {1, 4, 6, 4, 1};
        long[] square = {1, 6, 11, 6, 1};
        for (int k = 0; k <= 4; k++) {
            due.is("25 chain " + k, x.character(0, k), cyclotomic[k]);
            due.is("25 empty " + k, x.character(1, k), binomial[k]);
            due.is("25 two apart " + k, x.character(3, k), square[k]);
            due.is("25 large " + k, x.character(2, k), LARGE);
        }
        for (int wrong : new int[] {-1, 5, Integer.MIN_VALUE, Integer.MAX_VALUE}) {
            due.is("25 outside", x.character(2, wrong), OUTSIDE);
        }
        due.is("25 unknown", x.character(8, -1), UNKNOWN);
        due.is("25 unknown", x.character(-1, 0), UNKNOWN);
        SkinTwists y = Made.plans(3, "");
        due.is("25 six", y.character(0, 3), 20);
        due.is("25 six", y.character(0, 6), 1);
        due.is("25 six", y.character(0, 7), OUTSIDE);
    }

    private void length() {
        SkinTwists x = Made.plans(1, "a1b1-", "(a1b1-)7");
        int[] want = {2, 5, 13, 34, 89, 233};
        for (int k = 0; k < want.length; k++) {
            due.is("26 length " + k, x.length(0, k), want[k]);
        }
        // the letters of both together may be above 400, one row may not
        due.is("26 together", x.length(0, 6), 610);
        due.is("26 large", x.length(0, 7), LARGE);
        due.is("26 no time", x.length(1, 0), 2);
        due.is("26 large", x.length(1, 1), LARGE);
        due.is("26 empty", x.length(2, 24), 2);
        due.is("26 outside", x.length(1, 25), OUTSIDE);
        due.is("26 outside", x.length(1, -1), OUTSIDE);
        for (int far : FAR) {
            due.is("26 outside", x.length(0, far), OUTSIDE);
            due.is("26 unknown", x.length(far, -1), UNKNOWN);
        }
    }

    private void sort() {
        SkinTwists x = Made.plans(2, "a1b1c1b2", "a1", "a1b1-", "a1b1-a2b2-", "(a1b1-)7", "b1b1");
        due.is("27 order", x.sort(0, 10), 0);
        due.is("27 order not within", x.sort(0, 9) == 0 ? 1 : 0, 0);
        due.is("27 no ring is told", x.sort(1, 3), 2);
        Due.ring(x, 1, -3);
        Due.ring(x, 1, 1);
        due.is("27 no ring is simple", x.sort(1, 3), 2);
        Due.ring(x, 1);
        due.is("27 it keeps a ring", x.sort(1, 3), 1);
        due.is("27 not this one", x.sort(3, 3), 2);
        Due.ring(x, 4);
        due.is("27 it keeps a ring apart", x.sort(2, 3), 1);
        due.is("27 large all the same", x.sort(2, 7), LARGE);
        due.is("27 not this one", x.sort(3, 3), 2);
        due.is("27 large", x.sort(4, 1), LARGE);
        due.is("27 outside", x.sort(4, 0), OUTSIDE);
        due.is("27 outside", x.sort(4, 13), OUTSIDE);
        for (int far : FAR) {
            due.is("27 outside", x.sort(0, far), OUTSIDE);
            due.is("27 unknown", x.sort(far, 0), UNKNOWN);
        }
        ringsTooLarge();
    }

    private void ringsTooLarge() {
        // the images of the letters stay within bounds, those of a long ring do not
        SkinTwists x = Made.plans(1, "a1b1-");
        int[] letters = new int[59];
        for (int k = 0; k < 59; k++) {
            letters[k] = k == 58 ? 2 : 1;
        }
        Due.ring(x, letters);
        due.is("27 simple", x.told(0, 3), 1);
        due.is("27 a ring that would be large is not kept", x.sort(0, 6), 2);
    }

    private void law() {
        SkinTwists x = Made.skin(3);
        for (int t = 0; t < 8; t++) {
            for (int u = 0; u < 8; u++) {
                due.is("28 law " + t + " " + u, x.law(t, u), meet(t, u) ? 1 : 0);
            }
            due.is("28 unknown", x.law(t, 8), UNKNOWN);
            due.is("28 unknown", x.law(8, t), UNKNOWN);
            due.is("28 unknown", x.law(t, -1), UNKNOWN);
            due.is("28 unknown", x.law(-1, t), UNKNOWN);
        }
        for (int far : FAR) {
            due.is("28 unknown", x.law(far, 0), UNKNOWN);
            due.is("28 unknown", x.law(0, far), UNKNOWN);
        }
        x.skin(1);
        due.is("28 one handle", x.law(0, 1), 1);
        due.is("28 one handle", x.law(1, 0), 1);
        due.is("28 one handle", x.law(0, 2), UNKNOWN);
    }

    /** Whether the rings of two of the eight twists of three handles meet. */
    private static boolean meet(int t, int u) {
        if (t > u) {
            return meet(u, t);
        }
        boolean sameHandle = t < 3 && u == t + 3;
        boolean between = t >= 3 && t < 6 && u >= 6 && (t - 3 == u - 6 || t - 3 == u - 5);
        return sameHandle || between;
    }

    private void carry() {
        SkinTwists x = Made.skin(2);
        Due.ring(x, 1);
        Due.ring(x, 2);
        Due.ring(x, 3);
        Due.ring(x, 1, 1);
        Due.ring(x, 2, 1);
        Due.ring(x, 2, 1, 1, 1);
        due.is("29 at once", x.carry(0, 0, 0, NONE), 0);
        due.is("29 at once: none", x.carry(0, 0, 3, 0), NONE);
        due.is("29 one", x.carry(1, 4, 3, NONE), 1);
        due.is("29 one: a1", x.carry(1, 4, 3, 0), 0);
        due.is("29 one: none more", x.carry(1, 4, 3, 1), NONE);
        due.is("29 three", x.carry(1, 5, 3, NONE), 3);
        due.is("29 three: a1", x.carry(1, 5, 3, 2), 0);
        due.is("29 three are not within two", x.carry(1, 5, 2, NONE), NONE);
        due.is("29 three are not within two", x.carry(1, 5, 2, 0), NONE);
        due.is("29 the way back: the other way round", x.carry(4, 1, 3, 0), 1);
        due.is("29 two", x.carry(0, 1, 3, NONE), 2);
        due.is("29 two: a1", x.carry(0, 1, 3, 0), 0);
        due.is("29 two: b1", x.carry(0, 1, 3, 1), 4);
        due.is("29 never", x.carry(0, 3, 3, NONE), NONE);
        due.is("29 never", x.carry(0, 3, 3, 2), NONE);
        due.is("29 a power", x.carry(3, 3, 3, NONE), 0);
        due.is("29 outside", x.carry(0, 0, 4, 0), OUTSIDE);
        due.is("29 outside", x.carry(0, 0, -1, 0), OUTSIDE);
        due.is("29 outside", x.carry(0, 0, 0, 3), OUTSIDE);
        due.is("29 outside", x.carry(0, 0, 0, -2), OUTSIDE);
        due.is("29 unknown", x.carry(0, 6, 4, 3), UNKNOWN);
        for (int far : FAR) {
            due.is("29 unknown", x.carry(far, 0, 9, 0), UNKNOWN);
            due.is("29 unknown", x.carry(0, far, 9, 0), UNKNOWN);
            due.is("29 outside", x.carry(0, 0, far, 0), OUTSIDE);
            due.is("29 outside", x.carry(0, 0, 0, far), OUTSIDE);
        }
    }

    private void fewest() {
        SkinTwists x = Made.plans(2, "", "a1a1-", "b1a1b1", "c1a2a2-", "a2a1", "(a2b2-)7", "a1b1c1b2", "b2-a1-");
        due.is("30 empty", x.fewest(0, 0, NONE), 0);
        due.is("30 empty: none", x.fewest(0, 3, 0), NONE);
        due.is("30 it comes back", x.fewest(1, 3, NONE), 0);
        due.is("30 three", x.fewest(2, 3, NONE), 3);
        due.is("30 the first of them", x.fewest(2, 3, 0), 0);
        due.is("30 the first of them", x.fewest(2, 3, 1), 4);
        due.is("30 the first of them", x.fewest(2, 3, 2), 0);
        due.is("30 not within two", x.fewest(2, 2, NONE), NONE);
        due.is("30 not within two", x.fewest(2, 2, 0), NONE);
        due.is("30 one", x.fewest(3, 1, NONE), 1);
        due.is("30 one: c1", x.fewest(3, 1, 0), 8);
        due.is("30 two in the first order", x.fewest(4, 3, 0), 0);
        due.is("30 two in the first order", x.fewest(4, 3, 1), 2);
        due.is("30 two in the first order", x.fewest(4, 3, 2), NONE);
        due.is("30 the other way round", x.fewest(7, 3, 0), 1);
        due.is("30 the other way round", x.fewest(7, 3, 1), 7);
        due.is("30 none", x.fewest(6, 3, NONE), NONE);
        due.is("30 large", x.fewest(5, 0, NONE), LARGE);
        due.is("30 outside ahead of large", x.fewest(5, 4, NONE), OUTSIDE);
        due.is("30 outside", x.fewest(5, -1, NONE), OUTSIDE);
        due.is("30 outside", x.fewest(5, 0, -2), OUTSIDE);
        due.is("30 outside", x.fewest(5, 0, 3), OUTSIDE);
        for (int far : FAR) {
            due.is("30 unknown", x.fewest(far, 9, 0), UNKNOWN);
            due.is("30 outside", x.fewest(0, far, 0), OUTSIDE);
            due.is("30 outside", x.fewest(0, 0, far), OUTSIDE);
        }
    }
}
