/** Counts and prints the answers that are not the ones that are due. */
final class Due {
    private int wrong = 0;
    private int asked = 0;

    void is(String what, long got, long want) {
        asked++;
        if (got != want) {
            wrong++;
            System.out.println(what + " answered " + got + ", due is " + want);
        }
    }

    /** Prints how it went and ends the program with 1 if something was wrong. */
    void end(String name) {
        System.out.println(name + ": " + asked + " answers, " + wrong + " not as due");
        if (wrong != 0) {
            System.exit(1);
        }
    }

    static int feed(SkinTwists skin, String text) {
        int size = skin.count(4);
        for (int k = 0; k < text.length(); k++) {
            size = skin.feed(1, text.charAt(k));
        }
        return size;
    }

    static int read(SkinTwists skin, int plan, String text) {
        feed(skin, text);
        return skin.read(plan);
    }

    static int ring(SkinTwists skin, int... letters) {
        for (int letter : letters) {
            skin.letter(letter);
        }
        return skin.ring();
    }
}
