import java.util.Random;

/** What is true of every skin, whatever its rings and plans: held against many of them. */
public final class TruthsTest {
    private static final int NONE = -1;

    private final Due due = new Due();
    private final Random random = new Random(7);

    public static void main(String[] args) {
        TruthsTest test = new TruthsTest();
        for (int g = 1; g <= 3; g++) {
            test.lawsAreMeetings(g);
            test.twistsKeepTheRim(g);
            for (int k = 0; k < 60; k++) {
                test.plansKeepMeetings(g);
                test.twistsMultiplyMeetings(g);
                test.plansTurnBack(g);
                test.charactersReadBothWays(g);
                test.lettersOfAnImageAreARow(g);
            }
        }
        test.chainsAreTurns();
        test.longRingsAreRings();
        test.due.end("TruthsTest");
    }

    private static int coreRing(SkinTwists x, int g, int t) {
        if (t < g) {
            return Due.ring(x, 2 * t + 1);
        }
        if (t < 2 * g) {
            return Due.ring(x, 2 * (t - g) + 2);
        }
        int i = t - 2 * g;
        return Due.ring(x, 2 * i + 2, -(2 * i + 1), -(2 * i + 2), 2 * i + 3);
    }

    private static String textOf(int g, int code) {
        int t = code / 2;
        String kind = t < g ? "a" : t < 2 * g ? "b" : "c";
        return kind + (1 + t % g) + (code % 2 == 0 ? "" : "-");
    }

    private String someText(int g, int most) {
        StringBuilder text = new StringBuilder();
        for (int k = random.nextInt(most) + 1; k > 0; k--) {
            text.append(textOf(g, random.nextInt(6 * g - 2)));
        }
        return text.toString();
    }

    private void someRing(SkinTwists x, int g) {
        int many = 1 + random.nextInt(5);
        for (int k = 0; k < many; k++) {
            int letter = 1 + random.nextInt(2 * g);
            x.letter(random.nextBoolean() ? letter : -letter);
        }
        if (x.ring() < 0) {
            Due.ring(x, 1);
        }
    }

    /** Twists along rings that meet once have law 1, those along rings apart law 0. */
    private void lawsAreMeetings(int g) {
        SkinTwists x = Made.skin(g);
        for (int t = 0; t < 3 * g - 1; t++) {
            coreRing(x, g, t);
        }
        for (int t = 0; t < 3 * g - 1; t++) {
            due.is("simple", x.told(t, 3), 1);
            for (int u = 0; u < 3 * g - 1; u++) {
                due.is("law of " + t + " and " + u, x.law(t, u), x.meets(t, u));
            }
        }
    }

    private void twistsKeepTheRim(int g) {
        SkinTwists x = Made.skin(g);
        for (int i = 0; i < g; i++) {
            for (int letter : new int[] {2 * i + 1, 2 * i + 2, -(2 * i + 1), -(2 * i + 2)}) {
                x.letter(letter);
            }
        }
        due.is("rim", x.ring(), 0);
        due.is("the rim is simple", x.told(0, 3), 1);
        for (int code = 0; code < 6 * g - 2; code++) {
            Due.read(x, 0, textOf(g, code));
            due.is("code", x.twist(0, 0), code);
            due.is("the rim stays", x.carried(0, 0, 0), 1);
            due.is("and is met by none", x.meetsThen(0, 0, 0), 0);
        }
    }

    /** Lays the ring that plan p carries ring r to; false if it is too long for that. */
    private static boolean layCarried(SkinTwists x, int p, int r) {
        int size = x.told(r, 0);
        int letters = 0;
        for (int k = 0; k < size; k++) {
            int letter = x.at(r, k);
            int many = x.image(p, Math.abs(letter), NONE);
            for (int i = 0; i < many; i++) {
                int place = letter > 0 ? i : many - 1 - i;
                int got = x.image(p, Math.abs(letter), place);
                if (x.letter(letter > 0 ? got : -got) < 0) {
                    return false;
                }
                letters++;
            }
        }
        return letters > 0 && x.ring() >= 0;
    }

    private void plansKeepMeetings(int g) {
        SkinTwists x = Made.skin(g);
        someRing(x, g);
        someRing(x, g);
        String text = someText(g, 4);
        Due.read(x, 0, text);
        if (x.meets(0, 1) < 0 || !layCarried(x, 0, 1)) {
            return;
        }
        due.is("told alike by " + text, x.told(2, 2), x.told(1, 2));
        due.is("carried by " + text, x.carried(0, 1, 2), 1);
        due.is("meetings by " + text, x.meetsThen(0, 0, 2), x.meets(0, 1));
        due.is("meets both ways", x.meets(0, 2), x.meets(2, 0));
    }

    /** A ring twisted k times along a simple one meets itself k times the square of their meetings. */
    private void twistsMultiplyMeetings(int g) {
        SkinTwists x = Made.skin(g);
        int t = random.nextInt(3 * g - 1);
        coreRing(x, g, t);
        int u = random.nextInt(3 * g - 1);
        coreRing(x, g, u);
        Due.read(x, 1, someText(g, 4));
        if (!layCarried(x, 1, 1)) {
            return;
        }
        int many = 1 + random.nextInt(3);
        Due.read(x, 0, "(" + textOf(g, 2 * t + random.nextInt(2)) + ")" + many);
        int meets = x.meets(0, 2);
        int then = x.meetsThen(0, 2, 2);
        if (then != -1005) {
            due.is("twisted " + many + " times", then, many * meets * meets);
        }
    }

    private void plansTurnBack(int g) {
        SkinTwists x = Made.skin(g);
        Due.read(x, 0, someText(g, 5));
        x.turn(1, 0);
        x.chain(2, 0, 1);
        x.chain(3, 1, 0);
        due.is("there and back", x.same(2, 7), NONE);
        due.is("back and there", x.same(3, 7), NONE);
        due.is("no turn", x.turns(2), 0);
        due.is("nothing is fewest", x.fewest(2, 3, NONE), 0);
    }

    private void charactersReadBothWays(int g) {
        SkinTwists x = Made.skin(g);
        Due.read(x, 0, someText(g, 6));
        long trace = 0;
        for (int letter = 1; letter <= 2 * g; letter++) {
            trace += x.table(0, letter, letter);
        }
        due.is("e 1 is the trace", x.character(0, 1), trace);
        for (int k = 0; k <= 2 * g; k++) {
            due.is("e " + k, x.character(0, k), x.character(0, 2 * g - k));
        }
        due.is("e 0", x.character(0, 0), 1);
    }

    private void lettersOfAnImageAreARow(int g) {
        SkinTwists x = Made.skin(g);
        Due.read(x, 0, someText(g, 6));
        int together = 0;
        for (int letter = 1; letter <= 2 * g; letter++) {
            int size = x.image(0, letter, NONE);
            together += size;
            for (int i = 1; i < size; i++) {
                due.is("clean", x.image(0, letter, i) == -x.image(0, letter, i - 1) ? 1 : 0, 0);
            }
        }
        due.is("length 1", x.length(0, 1), together);
    }

    /** A chain of 2 g twists, each meeting the next, comes back when it is done 4 g + 2 times. */
    private void chainsAreTurns() {
        String[] chains = {"a1b1", "a1b1c1b2", "a1b1c1b2c2b3"};
        for (int g = 1; g <= 3; g++) {
            SkinTwists x = Made.skin(g);
            Due.read(x, 0, chains[g - 1]);
            due.is("order of the chain", x.order(0, 24), 4 * g + 2);
            if (g < 3) {
                due.is("sort of the chain", x.sort(0, 12), 0);
            }
            x.turn(1, 0);
            due.is("order of the chain turned", x.order(1, 24), 4 * g + 2);
        }
    }

    /** Long rings are told as short ones are. */
    private void longRingsAreRings() {
        SkinTwists x = Made.skin(1);
        for (int k = 0; k < 43; k++) {
            x.letter(1);
        }
        x.letter(2);
        due.is("ring", x.ring(), 0);
        Due.ring(x, 2);
        Due.read(x, 0, "(a1)9(a1)9(a1)9(a1)9(a1)7");
        due.is("43 times", x.carried(0, 1, 0), 1);
        due.is("43 meetings", x.meets(0, 1), 43);
        due.is("simple", x.told(0, 3), 1);
    }
}
