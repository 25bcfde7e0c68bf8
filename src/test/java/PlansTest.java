/** Chapter 3 of the document and promises 12 to 20, sentence by sentence, at their bounds. */
public final class PlansTest {
    private static final int NONE = -1, UNKNOWN = -1001, OUTSIDE = -1002, NOT = -1003, FULL = -1004, LARGE = -1005;
    private static final String SIXTY = "((a1)6)5((b1-)6)5";

    private final Due due = new Due();

    public static void main(String[] args) {
        PlansTest test = new PlansTest();
        test.numbersOfTwists();
        test.whatLettersBecome();
        test.oppositesBecomeBack();
        test.twistsKeepTheirRings();
        test.plansOfSixty();
        test.lastTwistFirst();
        test.handlesInTexts();
        test.timesInTexts();
        test.bracketsInTexts();
        test.blanksAnywhere();
        test.textsOf120();
        test.bytesThatCannotStand();
        test.figuresOutOfBounds();
        test.moreThanSixty();
        test.moreThanSixtyInBrackets();
        test.aFifthBracket();
        test.theFirstByteTheLeastFault();
        test.feed();
        test.bytesOfALong();
        test.read();
        test.faultOfTheLatestRead();
        test.twist();
        test.chain();
        test.chainOntoItself();
        test.turn();
        test.image();
        test.carried();
        test.carriedAsARing();
        test.meetsThen();
        test.due.end("PlansTest");
    }

    private static String nameOf(int g, int t) {
        char kind = t < g ? 'a' : t < 2 * g ? 'b' : 'c';
        return "" + kind + (1 + t % g);
    }

    private void numbersOfTwists() {
        due.says("TWISTS are numbered: 0 to g - 1 round LETTER 2 i + 1 of handle i (from 0), "
                + "g to 2 g - 1 round 2 i + 2, 2 g to 3 g - 2 (if g is above 1) round C");
        for (int g = 1; g <= 3; g++) {
            SkinTwists x = Made.skin(g);
            due.is("twists", x.count(3), 3 * g - 1);
            for (int t = 0; t < 3 * g - 1; t++) {
                due.is("read " + nameOf(g, t), Due.read(x, 0, nameOf(g, t)), 1);
                due.is("number of " + nameOf(g, t), x.twist(0, 0), 2 * t);
                due.is("read " + nameOf(g, t) + "-", Due.read(x, 0, nameOf(g, t) + "-"), 1);
                due.is("number of " + nameOf(g, t) + "-", x.twist(0, 0), 2 * t + 1);
            }
        }
    }

    /** The letters of handle i in the place of those of handle 0. */
    private static int[] onHandle(int i, int... row) {
        int[] moved = new int[row.length];
        for (int k = 0; k < row.length; k++) {
            moved[k] = row[k] > 0 ? row[k] + 2 * i : row[k] - 2 * i;
        }
        return moved;
    }

    private void becomes(SkinTwists x, int letter, int... want) {
        due.is("letters of " + letter, x.image(0, letter, NONE), want.length);
        for (int i = 0; i < want.length; i++) {
            due.is("letter " + i + " of " + letter, x.image(0, letter, i), want[i]);
        }
    }

    private void become(int g, String text, int i, int[][] told) {
        SkinTwists x = Made.plans(g, text);
        for (int letter = 1; letter <= 2 * g; letter++) {
            int[] want = {letter};
            for (int[] row : told) {
                if (letter == row[0] + 2 * i) {
                    want = onHandle(i, java.util.Arrays.copyOfRange(row, 1, row.length));
                }
            }
            becomes(x, letter, want);
        }
    }

    private void whatLettersBecome() {
        due.says("What LETTERS become (an OPPOSITE the same BACK; those that are not told stay)");
        // each row: a letter of handle 0 or 1, then what it becomes by a twist of handle 0
        int[][] first = {{2, 2, 1}};
        int[][] firstBack = {{2, 2, -1}};
        int[][] second = {{1, 1, -2}};
        int[][] secondBack = {{1, 1, 2}};
        int[][] third = {{2, -3, 2, 1}, {3, -3, 2, 1, -2, 3, 2, -1, -2, 3}, {4, 4, 2, -1, -2, 3}};
        int[][] thirdBack = {{2, 2, -1, -2, 3, 2}, {3, 2, -1, -2, 3, 2, 1, -2}, {4, 4, -3, 2, 1, -2}};
        for (int g = 1; g <= 3; g++) {
            for (int i = 0; i < g; i++) {
                become(g, "a" + (i + 1), i, first);
                become(g, "a" + (i + 1) + "-", i, firstBack);
                become(g, "b" + (i + 1), i, second);
                become(g, "b" + (i + 1) + "-", i, secondBack);
            }
            for (int i = 0; i < g - 1; i++) {
                become(g, "c" + (i + 1), i, third);
                become(g, "c" + (i + 1) + "-", i, thirdBack);
            }
        }
    }

    private void oppositesBecomeBack() {
        due.says("an OPPOSITE the same BACK");
        SkinTwists x = Made.plans(2, "c1", "b1", "a2-");
        due.is("a ring", Due.ring(x, -3, 1), 0);
        due.is("what it becomes by c1", Due.ring(x, -3, 2, 1, -2, -3, 2, -1, -2, 3, 1), 1);
        due.is("c1", x.carried(0, 0, 1), 1);
        due.is("c1", x.carried(0, 0, NONE), 10);
        due.is("a ring", Due.ring(x, -1, 3), 2);
        due.is("what it becomes by b1", Due.ring(x, 2, -1, 3), 3);
        due.is("b1", x.carried(1, 2, 3), 1);
        due.is("a ring", Due.ring(x, -4, 1), 4);
        due.is("what it becomes by a2-", Due.ring(x, 3, -4, 1), 5);
        due.is("a2-", x.carried(2, 4, 5), 1);
        due.is("a ring", Due.ring(x, -4, 1, 1), 6);
        due.is("what it becomes by c1", Due.ring(x, -3, 2, 1, -2, -4, 1, 1), 7);
        due.is("c1", x.carried(0, 6, 7), 1);
    }

    private void twistsKeepTheirRings() {
        due.says("round C: 2 i + 2, -(2 i + 1), -(2 i + 2), 2 i + 3");
        for (int g = 1; g <= 3; g++) {
            for (int t = 0; t < 3 * g - 1; t++) {
                SkinTwists x = Made.plans(g, nameOf(g, t), nameOf(g, t) + "-");
                int i = t % g;
                int[] c = {2 * i + 2, -(2 * i + 1), -(2 * i + 2), 2 * i + 3};
                Due.ring(x, t < g ? new int[] {2 * i + 1} : t < 2 * g ? new int[] {2 * i + 2} : c);
                due.is(nameOf(g, t) + " keeps its ring", x.carried(0, 0, 0), 1);
                due.is(nameOf(g, t) + "- keeps its ring", x.carried(1, 0, 0), 1);
            }
        }
    }

    private void plansOfSixty() {
        due.says("A PLAN (0 .. 7; empty at first) is a row of up to 60 TWISTS, each one way or the other.");
        SkinTwists x = new SkinTwists();
        for (int p = 0; p < 8; p++) {
            due.is("empty at first", x.twist(p, NONE), 0);
        }
        due.is("plan 8", x.twist(8, NONE), UNKNOWN);
        due.is("plan -1", x.twist(-1, NONE), UNKNOWN);
        due.is("sixty", Due.read(x, 7, SIXTY), 60);
        for (int i = 0; i < 60; i++) {
            due.is("twist " + i, x.twist(7, i), i < 30 ? 0 : 5);
        }
        due.is("no twist 60", x.twist(7, 60), NONE);
        due.is("the other plans stay", x.twist(6, NONE), 0);
        due.is("sixty one", Due.read(x, 7, SIXTY + "a1"), -13);
        due.is("sixty stay", x.twist(7, NONE), 60);
        Due.read(x, 0, "((a1)6)9a1a1a1a1a1a1");
        due.is("sixty one way", x.image(0, 2, NONE), 61);
        due.is("sixty one way", x.table(0, 2, 1), 60);
        x.turn(1, 0);
        due.is("sixty the other", x.table(1, 2, 1), -60);
    }

    private void lastTwistFirst() {
        due.says("from the last TWIST of the PLAN to the first, each LETTER becomes what that TWIST makes it, "
                + "and the ROW is made CLEAN");
        SkinTwists x = Made.plans(1, "a1b1");
        becomes(x, 1, -2);
        becomes(x, 2, 2, 1);
        Due.read(x, 0, "b1a1");
        becomes(x, 1, 1, -2);
        becomes(x, 2, 2, 1, -2);
        Due.read(x, 0, "");
        becomes(x, 1, 1);
        becomes(x, 2, 2);
        Due.read(x, 0, "a1a1-b1-b1");
        becomes(x, 1, 1);
        becomes(x, 2, 2);
    }

    private void reads(int g, String text, int want, int place) {
        SkinTwists x = Made.skin(g);
        due.is("read of '" + text + "'", Due.read(x, 0, text), want);
        due.is("byte in '" + text + "'", x.fault(), place);
    }

    private void handlesInTexts() {
        due.says("H: a figure, the handle from 1 on (of c 1 .. g - 1)");
        for (int g = 1; g <= 3; g++) {
            for (int h = 0; h <= 9; h++) {
                boolean within = h >= 1 && h <= g;
                reads(g, "a" + h, within ? 1 : -12, within ? NONE : 1);
                reads(g, "b" + h, within ? 1 : -12, within ? NONE : 1);
                boolean between = h >= 1 && h < g;
                reads(g, "c" + h, between ? 1 : -12, between ? NONE : 1);
            }
        }
    }

    private void timesInTexts() {
        due.says("N: a figure 1 .. 9: so often.");
        for (int n = 0; n <= 9; n++) {
            reads(2, "(a1b1)" + n, n == 0 ? -12 : 2 * n, n == 0 ? 6 : NONE);
            reads(2, "()" + n, n == 0 ? -12 : 0, n == 0 ? 2 : NONE);
        }
        SkinTwists x = Made.plans(2, "a2(a1b1-)3c1");
        int[] want = {2, 0, 5, 0, 5, 0, 5, 8, NONE};
        for (int i = 0; i < want.length; i++) {
            due.is("twist " + i, x.twist(0, i), want[i]);
        }
    }

    private void bracketsInTexts() {
        due.says("'(' {item} ')' N");
        reads(2, "", 0, NONE);
        reads(2, "()1", 0, NONE);
        reads(2, "(()1)1", 0, NONE);
        reads(2, "(a1)1", 1, NONE);
        reads(2, "(a1(b1)2)2", 6, NONE);
        reads(2, "(a1)2(b1)3", 5, NONE);
        SkinTwists x = Made.plans(2, "(a1(b1-c1)2)2b2");
        int[] want = {0, 5, 8, 5, 8, 0, 5, 8, 5, 8, 6, NONE};
        for (int i = 0; i < want.length; i++) {
            due.is("twist " + i, x.twist(0, i), want[i]);
        }
    }

    private void blanksAnywhere() {
        due.says("Blanks (32) may stand anywhere.");
        String text = "(a1-b2)3c1";
        for (int place = 0; place <= text.length(); place++) {
            for (String blanks : new String[] {" ", "   "}) {
                reads(2, text.substring(0, place) + blanks + text.substring(place), 7, NONE);
            }
        }
        reads(2, " ", 0, NONE);
        reads(2, " ".repeat(120), 0, NONE);
        for (int other : new int[] {0, 9, 10, 13, 31, 33, 95, 127, 128, 160, 255}) {
            reads(2, "a1" + (char) other + "b1", -11, 2);
        }
    }

    private void textsOf120() {
        due.says("TEXT of a PLAN (120 bytes at most)");
        reads(2, "a1".repeat(60), 60, NONE);
        reads(2, "a1-".repeat(40), 40, NONE);
        reads(2, "a1".repeat(59) + "b3", -12, 119);
        reads(2, "a1".repeat(58) + "b1- ", 59, NONE);
        due.says("at the first byte that has one (the end at the text's length)");
        reads(2, " ".repeat(119) + "a", -11, 120);
        reads(2, " ".repeat(119) + "(", -11, 120);
        reads(2, " ".repeat(119) + "1", -11, 119);
        reads(2, "(a1)" + " ".repeat(116), -11, 120);
        reads(2, "a", -11, 1);
        reads(2, "a1b", -11, 3);
        reads(2, "(", -11, 1);
        reads(2, "(a1", -11, 3);
        reads(2, "(a1)", -11, 4);
        reads(2, "((a1)2", -11, 6);
    }

    private void bytesThatCannotStand() {
        due.says("1 it cannot stand there.");
        // ahead of an item: no figure, no way, no bracket that is not open, nothing else
        String items = "abc(";
        for (int value = 0; value < 256; value++) {
            char sign = (char) value;
            if (items.indexOf(sign) < 0 && sign != ' ') {
                reads(2, "" + sign, -11, 0);
                reads(2, "(a1)1" + sign, -11, 5);
            }
            boolean figure = sign >= '0' && sign <= '9';
            if (!figure && sign != ' ') {
                reads(2, "a" + sign, -11, 1);
                reads(2, "()" + sign, -11, 2);
            }
            if (items.indexOf(sign) < 0 && sign != ' ' && sign != '-') {
                reads(2, "a1" + sign, -11, 2);
                reads(2, "a1-" + sign, -11, 3);
            }
            if (items.indexOf(sign) < 0 && sign != ' ' && sign != ')') {
                reads(2, "(" + sign, -11, 1);
            }
        }
        reads(2, "a1--", -11, 3);
        reads(2, "a1 - -", -11, 5);
        reads(2, "(a1-)-", -11, 5);
        reads(2, "(a1)2-", -11, 5);
        reads(2, "(a1))2", -11, 4);
        reads(2, "(a1)2)", -11, 5);
    }

    private void figuresOutOfBounds() {
        due.says("2 a figure out of its bounds.");
        reads(2, "a0", -12, 1);
        reads(2, "a 3", -12, 2);
        reads(2, "b1 b 0 ", -12, 5);
        reads(1, "c1", -12, 1);
        reads(2, "c2", -12, 1);
        reads(3, "c2c3", -12, 3);
        reads(2, "(a1)0", -12, 4);
        reads(2, "(a1) 0", -12, 5);
        reads(2, "((a1)0)0", -12, 5);
        reads(2, "()0", -12, 2);
        // of a bad figure and what is wrong behind it the figure comes first
        reads(2, "a3?", -12, 1);
        reads(2, "a?3", -11, 1);
    }

    private void moreThanSixty() {
        due.says("3 with what ends here it has more than 60 TWISTS (at the item's first byte; of a bracket at its N).");
        reads(2, SIXTY, 60, NONE);
        reads(2, SIXTY + "-", -11, 17);
        reads(2, SIXTY + "a1", -13, 17);
        reads(2, SIXTY + "a1-", -13, 17);
        reads(2, SIXTY + "  c 1", -13, 19);
        reads(2, SIXTY + "()9", 60, NONE);
        reads(2, SIXTY + "(b2", -13, 18);
        reads(2, SIXTY + "(b2)1", -13, 18);
        reads(2, "a1".repeat(59) + "a2", 60, NONE);
        reads(2, "((a1)6)9a1a1a1a1a1", 59, NONE);
        reads(2, "((a1)6)9a1a1a1a1a1b1", 60, NONE);
        reads(2, "((a1)6)9a1a1a1a1a1b1-", 60, NONE);
        reads(2, "((a1)6)9a1a1a1a1a1b1-b1", -13, 21);
        // what has a fault of its own does not end
        reads(2, SIXTY + "a", -11, 18);
        reads(2, SIXTY + "a3", -12, 18);
        reads(2, SIXTY + "a?", -11, 18);
        reads(2, SIXTY + "(", -11, 18);
        reads(2, SIXTY + "()", -11, 19);
        reads(2, SIXTY + "()0", -12, 19);
    }

    private void moreThanSixtyInBrackets() {
        due.says("of a bracket at its N");
        reads(2, "((a1b1)3(a2)4)6", 60, NONE);
        reads(2, "((a1b1)3(a2)4)7", -13, 14);
        reads(2, "((a1b1)3(a2)4) 7", -13, 15);
        reads(2, "((a1)8)8", -13, 7);
        reads(2, "((a1)7)8", 56, NONE);
        reads(2, "((a1)7)9", -13, 7);
        reads(2, "b1((a1)7)8", 57, NONE);
        reads(2, "b1b1b1b1b1((a1)7)8", -13, 17);
        reads(2, "b1b1b1b1((a1)7)8", 60, NONE);
        reads(2, "(((a1)9)9)9", -13, 8);
        reads(2, "((((a1)9)1)9)9", -13, 11);
        reads(2, "((((a1)1)1)1)9", 9, NONE);
        // within the bracket it has too many already, ahead of its N
        reads(2, "((a1)6)9a1a1a1a1a1(b1b1)1", -13, 21);
        reads(2, "((a1)6)9a1a1a1a1a1(b1(b1)1)1", -13, 22);
        reads(2, "(" + "a1".repeat(59), -11, 119);
    }

    private void aFifthBracket() {
        due.says("4 a fifth bracket open (at it).");
        reads(2, "((((", -11, 4);
        reads(2, "(((((", -14, 4);
        reads(2, " ( ( ( ( (", -14, 9);
        reads(2, "((((a1)1(a1)1)1)1)1", 2, NONE);
        reads(2, "((((a1)1)1)1)1((((b1)1)1)1)1", 2, NONE);
        reads(2, "((((a1)1)1(((", -14, 12);
        reads(2, "((((a1)1((", -14, 9);
        reads(2, "((((a1(", -14, 6);
        reads(2, "((((()1)1)1)1)1", -14, 4);
    }

    private void theFirstByteTheLeastFault() {
        due.says("FAULTS, at the first byte that has one (the end at the text's length), of these the least");
        // a fifth bracket where no bracket can stand
        reads(2, "((((a(", -11, 5);
        reads(2, "((((a1)(", -11, 7);
        // two faults: the first byte
        reads(2, "a3(((((", -12, 1);
        reads(2, "(((((a3", -14, 4);
        reads(2, "x a3", -11, 0);
        reads(2, "a3 x", -12, 1);
        reads(2, SIXTY + "a1a3", -13, 17);
        reads(2, SIXTY + "a1x", -13, 17);
        reads(2, "((a1)8)8x", -13, 7);
        reads(2, "(x)0", -11, 1);
    }

    private void feed() {
        due.says("Up to eight bytes (n 1 .. 8) of a long, the highest of these first, come behind THE TEXT: "
                + "how many it has. OUTSIDE, FULL.");
        SkinTwists x = new SkinTwists();
        due.is("none", x.feed(0, 0x61L), OUTSIDE);
        due.is("nine", x.feed(9, 0x61L), OUTSIDE);
        due.is("below", x.feed(-1, 0x61L), OUTSIDE);
        due.is("nothing is there", x.count(4), 0);
        int size = 0;
        for (int n = 1; n <= 8; n++) {
            size += n;
            due.is("feed of " + n, x.feed(n, 0x2020202020202020L), size);
        }
        for (int n = 8; n > 0; n--) {
            size += n;
            due.is("feed of " + n, x.feed(n, 0x2020202020202020L), size);
        }
        due.is("72", size, 72);
        for (int k = 0; k < 5; k++) {
            size += 8;
            due.is("feed of 8", x.feed(8, 0x2020202020202020L), size);
        }
        for (int n = 1; n <= 8; n++) {
            SkinTwists y = new SkinTwists();
            Due.feed(y, " ".repeat(120 - n));
            if (n < 8) {
                due.is("one too many", y.feed(n + 1, 0L), FULL);
            }
            due.is("just enough", y.feed(n, 0x2020202020202020L), 120);
            due.is("no more", y.feed(n, 0L), FULL);
            due.is("no more", y.feed(1, 0L), FULL);
            due.is("outside ahead of full", y.feed(9, 0L), OUTSIDE);
            due.is("as it was", y.read(0), 0);
        }
    }

    private void bytesOfALong() {
        due.says("the highest of these first");
        // "a1b2-c1 " as one long, and each n of its lowest bytes
        String all = "a1b2-c1 ";
        long bytes = 0x613162322d633120L;
        int[] want = {0, -11, 1, -11, -11, 2, -11, 3};
        for (int n = 1; n <= 8; n++) {
            SkinTwists x = new SkinTwists();
            due.is("fed", x.feed(n, bytes), n);
            SkinTwists y = new SkinTwists();
            Due.feed(y, all.substring(8 - n));
            due.is("read of " + n, x.read(0), want[n - 1]);
            due.is("the same byte by byte", y.read(0), want[n - 1]);
            due.is("the same fault", x.fault(), y.fault());
        }
        // the highest byte of a long may have the highest bit, and is no blank then
        SkinTwists x = new SkinTwists();
        x.feed(8, 0xa061312020202020L);
        due.is("byte 160", x.read(0), -11);
        due.is("byte 160", x.fault(), 0);
        x.feed(2, 0xffffffffffff6131L);
        due.is("bytes above do not count", x.read(0), 1);
        x.feed(1, 0x7fffffffffffff20L);
        due.is("bytes above do not count", x.read(0), 0);
    }

    private void read() {
        due.says("THE TEXT (it is empty then) becomes a PLAN: how many TWISTS; -10 less the number of its FAULT "
                + "(the PLAN is as it was). UNKNOWN (THE TEXT stays).");
        SkinTwists x = new SkinTwists();
        due.is("an empty text", x.read(3), 0);
        due.is("two", Due.read(x, 3, "b2c1-"), 2);
        due.is("the text is empty then", x.count(4), 0);
        String[] broken = {"a1 ?", "a1 b9", "(a1)9" + SIXTY + "b1", "(((((a1"};
        for (int fault = 1; fault <= 4; fault++) {
            due.is("fault " + fault, Due.read(x, 3, broken[fault - 1]), -10 - fault);
            due.is("the text is empty then, too", x.count(4), 0);
            due.is("the plan is as it was", x.twist(3, NONE), 2);
            due.is("the plan is as it was", x.twist(3, 0), 6);
            due.is("the plan is as it was", x.twist(3, 1), 9);
        }
        Due.feed(x, "a1");
        due.is("unknown", x.read(8), UNKNOWN);
        due.is("unknown", x.read(-1), UNKNOWN);
        due.is("the text stays", x.count(4), 2);
        due.is("it goes on", Due.read(x, 7, "a2"), 2);
        due.is("first", x.twist(7, 0), 0);
        due.is("second", x.twist(7, 1), 2);
        due.is("an empty text empties", x.read(7), 0);
        due.is("an empty text empties", x.twist(7, NONE), 0);
    }

    private void faultOfTheLatestRead() {
        due.says("The byte of the FAULT of the latest read() that was not UNKNOWN; NONE.");
        SkinTwists x = new SkinTwists();
        due.is("no read yet", x.fault(), NONE);
        x.read(8);
        due.is("an unknown one", x.fault(), NONE);
        Due.read(x, 0, "a1");
        due.is("a good one", x.fault(), NONE);
        Due.read(x, 0, "a1a1?");
        due.is("a bad one", x.fault(), 4);
        x.read(-1);
        due.is("an unknown one behind it", x.fault(), 4);
        Due.feed(x, "a1");
        due.is("a feed behind it", x.fault(), 4);
        due.is("a good one behind it", x.read(1), 1);
        due.is("a good one behind it", x.fault(), NONE);
        Due.read(x, 0, "?");
        due.is("the first byte", x.fault(), 0);
        Due.read(x, 0, "a1a");
        due.is("the end", x.fault(), 3);
        x.read(0);
        due.is("an empty one", x.fault(), NONE);
    }

    private void twist() {
        due.says("TWIST i of a PLAN: twice its number, and 1 the other way round; NONE; i = NONE: how many. UNKNOWN.");
        SkinTwists x = Made.plans(3, "a1a3-b1b3-c1c2-");
        int[] want = {0, 5, 6, 11, 12, 15};
        for (int i = 0; i < 6; i++) {
            due.is("twist " + i, x.twist(0, i), want[i]);
        }
        due.is("how many", x.twist(0, NONE), 6);
        due.is("behind", x.twist(0, 6), NONE);
        due.is("far behind", x.twist(0, 60), NONE);
        due.is("ahead", x.twist(0, -2), NONE);
        due.is("far ahead", x.twist(0, Integer.MIN_VALUE), NONE);
        due.is("farthest behind", x.twist(0, Integer.MAX_VALUE), NONE);
        due.is("of an empty plan", x.twist(1, 0), NONE);
        due.is("of an empty plan", x.twist(1, NONE), 0);
        due.is("unknown ahead of none", x.twist(8, 60), UNKNOWN);
        // a shorter plan in the place of a longer one has none of its twists
        Due.read(x, 0, "b2");
        due.is("first", x.twist(0, 0), 8);
        due.is("no second", x.twist(0, 1), NONE);
    }

    private void chain() {
        due.says("PLAN r becomes PLAN p, then q: how many TWISTS. UNKNOWN, FULL (above 60).");
        SkinTwists x = Made.plans(1, "((a1)6)9a1a1a1a1a1", "b1-", "b1b1", "");
        due.is("60", x.chain(4, 0, 1), 60);
        due.is("the last of 60", x.twist(4, 59), 3);
        due.is("none behind", x.twist(4, 60), NONE);
        due.is("60", x.chain(5, 1, 0), 60);
        due.is("the first of 60", x.twist(5, 0), 3);
        due.is("the last of 60", x.twist(5, 59), 0);
        due.is("61", x.chain(6, 0, 2), FULL);
        due.is("61", x.chain(6, 2, 0), FULL);
        due.is("61", x.chain(6, 4, 1), FULL);
        due.is("120", x.chain(6, 4, 5), FULL);
        due.is("nothing is there", x.twist(6, NONE), 0);
        due.is("60 and none", x.chain(6, 4, 3), 60);
        due.is("none and 60", x.chain(6, 3, 4), 60);
        due.is("none and none", x.chain(6, 3, 7), 0);
        due.is("it is empty", x.twist(6, NONE), 0);
        due.is("unknown ahead of full", x.chain(8, 4, 4), UNKNOWN);
        due.is("unknown", x.chain(0, 8, 1), UNKNOWN);
        due.is("unknown", x.chain(0, 1, -1), UNKNOWN);
    }

    private void chainOntoItself() {
        due.says("PLAN r becomes PLAN p, then q");
        SkinTwists x = Made.plans(2, "a1a2-", "b1", "((a1)6)5");
        due.is("r is p", x.chain(0, 0, 1), 3);
        int[] first = {0, 3, 4, NONE};
        for (int i = 0; i < 4; i++) {
            due.is("r is p: twist " + i, x.twist(0, i), first[i]);
        }
        due.is("r is q", x.chain(1, 0, 1), 4);
        int[] second = {0, 3, 4, 4, NONE};
        for (int i = 0; i < 5; i++) {
            due.is("r is q: twist " + i, x.twist(1, i), second[i]);
        }
        due.is("all are one", x.chain(2, 2, 2), 60);
        due.is("all are one, again", x.chain(2, 2, 2), FULL);
        due.is("as it was", x.twist(2, NONE), 60);
        due.is("p and q stay", x.chain(3, 0, 1), 7);
        due.is("p stays", x.twist(0, NONE), 3);
        due.is("q stays", x.twist(1, NONE), 4);
    }

    private void turn() {
        due.says("PLAN r becomes PLAN p from its end, each TWIST the other way round: how many. UNKNOWN.");
        SkinTwists x = Made.plans(2, "a1b2-c1", SIXTY, "");
        due.is("three", x.turn(3, 0), 3);
        int[] want = {9, 6, 1, NONE};
        for (int i = 0; i < 4; i++) {
            due.is("twist " + i, x.twist(3, i), want[i]);
        }
        due.is("p stays", x.twist(0, 0), 0);
        due.is("sixty", x.turn(1, 1), 60);
        due.is("the first of sixty", x.twist(1, 0), 4);
        due.is("the last of sixty", x.twist(1, 59), 1);
        due.is("onto itself", x.turn(0, 0), 3);
        for (int i = 0; i < 4; i++) {
            due.is("onto itself: twist " + i, x.twist(0, i), want[i]);
        }
        due.is("nothing", x.turn(0, 2), 0);
        due.is("nothing", x.twist(0, NONE), 0);
        due.is("unknown", x.turn(8, 1), UNKNOWN);
        due.is("unknown", x.turn(1, 8), UNKNOWN);
        due.is("as it was", x.twist(1, NONE), 60);
    }

    private void image() {
        due.says("i = NONE how many LETTERS, else the i-th; 0: there is none such. "
                + "UNKNOWN, OUTSIDE (the LETTER 1 .. 2 g), LARGE.");
        SkinTwists x = Made.plans(2, "c1");
        due.is("how many", x.image(0, 3, NONE), 9);
        due.is("first", x.image(0, 3, 0), -3);
        due.is("last", x.image(0, 3, 8), 3);
        due.is("behind", x.image(0, 3, 9), 0);
        due.is("ahead", x.image(0, 3, -2), 0);
        due.is("far behind", x.image(0, 3, Integer.MAX_VALUE), 0);
        due.is("far ahead", x.image(0, 3, Integer.MIN_VALUE), 0);
        due.is("the last letter", x.image(0, 4, 0), 4);
        due.is("above", x.image(0, 5, 0), OUTSIDE);
        due.is("no letter", x.image(0, 0, 0), OUTSIDE);
        due.is("an opposite", x.image(0, -3, 0), OUTSIDE);
        due.is("outside, though there is none such", x.image(0, 5, 99), OUTSIDE);
    }

    private void carried() {
        due.says("CARRIED by a PLAN, a RING: what = NONE how many LETTERS, else whether it is ONE with RING what (1, 0). "
                + "UNKNOWN, LARGE.");
        SkinTwists x = Made.plans(2, "a1", "a1-", "(a1b1-)7");
        Due.ring(x, 2);
        Due.ring(x, 2, 1);
        Due.ring(x, -1, -2);
        Due.ring(x, 2, 2);
        Due.ring(x, 2, 1, 2, 1);
        due.is("how many", x.carried(0, 0, NONE), 2);
        due.is("to another", x.carried(0, 0, 1), 1);
        due.is("to the same back", x.carried(0, 0, 2), 1);
        due.is("not to itself", x.carried(0, 0, 0), 0);
        due.is("the other way", x.carried(1, 0, 1), 0);
        due.is("a power", x.carried(0, 3, 4), 1);
        due.is("a power and no power", x.carried(0, 3, 1), 0);
        due.is("by nothing", x.carried(7, 4, 4), 1);
        due.is("no such ring", x.carried(0, 0, 5), UNKNOWN);
        due.is("no such ring", x.carried(0, 0, -2), UNKNOWN);
        due.is("no such ring", x.carried(0, 5, NONE), UNKNOWN);
        due.is("no such ring, though it is large", x.carried(2, 0, 5), UNKNOWN);
        due.is("large", x.carried(2, 0, 0), LARGE);
    }

    private void carriedAsARing() {
        due.says("(CARRIED: the IMAGE of the RING's ROW as it was told, as a RING at the end.)");
        SkinTwists x = Made.plans(2, "c1", "c1c1c1c1c1c1");
        Due.ring(x, 3);
        Due.ring(x, 3, 4, -3);
        due.is("its image is longer", x.image(0, 3, NONE), 9);
        due.is("as a ring", x.carried(0, 0, NONE), 1);
        due.is("as a ring", x.carried(0, 0, 0), 1);
        due.is("its image is longer still", x.image(1, 3, NONE), 49);
        due.is("as a ring", x.carried(1, 0, NONE), 1);
        due.is("a ring told with ends", x.told(1, 0), 1);
        due.is("a ring told with ends", x.carried(0, 1, NONE), 5);
        // a ring that is carried may have more than 60 letters
        SkinTwists y = Made.plans(1, "(a1)2");
        Due.ring(y, Made.joined(Made.times(59, 2), new int[] {1}));
        due.is("more than sixty", y.carried(0, 0, NONE), 178);
        due.is("not one with a shorter one", y.carried(0, 0, 0), 0);
    }

    private void meetsThen() {
        due.says("MEETINGS of a RING CARRIED by a PLAN with RING s. UNKNOWN, NOT (POWERS), LARGE.");
        SkinTwists x = Made.plans(1, "((a1)6)9", "(a1b1-)7", "b1");
        Due.ring(x, 2);
        Due.ring(x, 1);
        Due.ring(x, 1, 1);
        Due.ring(x, Made.evenRow(53, 6));
        due.is("54 times", x.meetsThen(0, 0, 0), 54);
        due.is("it is r that is carried", x.meetsThen(0, 1, 0), 1);
        due.is("it is r that is carried", x.meetsThen(2, 0, 0), 0);
        due.is("by nothing", x.meetsThen(7, 0, 1), 1);
        due.is("by nothing, itself", x.meetsThen(7, 3, 3), 0);
        due.is("a long one", x.meetsThen(0, 3, 0), 53 + 54 * 6);
        due.is("a power carried", x.meetsThen(0, 2, 0), NOT);
        due.is("a power met", x.meetsThen(0, 0, 2), NOT);
        due.is("a power, though it is large", x.meetsThen(1, 2, 0), NOT);
        due.is("large", x.meetsThen(1, 1, 0), LARGE);
        due.is("unknown ahead of a power", x.meetsThen(0, 2, 4), UNKNOWN);
        due.is("unknown ahead of a power", x.meetsThen(8, 2, 2), UNKNOWN);
        due.is("unknown", x.meetsThen(0, 4, 0), UNKNOWN);
    }
}
