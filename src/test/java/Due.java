import java.io.IOException;
import java.io.UncheckedIOException;
import java.nio.file.Files;
import java.nio.file.Path;

/** Counts and prints the answers that are not the ones that are due. */
final class Due {
    private static final Path DOCUMENT = Path.of("../shared/DOC.md");

    private int wrong = 0;
    private int asked = 0;
    private String sentence = "";
    private String document = "";

    /** Words of the document that the next answers hold to; they must stand in it, where it is at hand. */
    void says(String words) {
        sentence = words;
        if (Files.isReadable(DOCUMENT)) {
            document = document.isEmpty() ? textOfDocument() : document;
            is("the document has these words", document.contains(words) ? 1 : 0, 1);
        }
    }

    private static String textOfDocument() {
        try {
            return Files.readString(DOCUMENT).replaceAll("\\s+", " ");
        } catch (IOException broken) {
            throw new UncheckedIOException(broken);
        }
    }

    void is(String what, long got, long want) {
        asked++;
        if (got != want) {
            wrong++;
            String because = sentence.isEmpty() ? "" : " ('" + sentence + "')";
            System.out.println(what + " answered " + got + ", due is " + want + because);
        }
    }

    void isNot(String what, long got, long barred) {
        is(what + " is not " + barred, got == barred ? 1 : 0, 0);
    }

    /** Prints how it went and ends the program with 1 if something was wrong. */
    void end(String name) {
        System.out.println(name + ": " + asked + " answers, " + wrong + " not as due");
        if (wrong != 0) {
            System.exit(1);
        }
    }

    static int feed(SkinTwists skin, String text) {
        int size = skin.count(4);
        for (int from = 0; from < text.length(); from += 8) {
            int n = Math.min(8, text.length() - from);
            long bytes = 0;
            for (int k = 0; k < n; k++) {
                bytes = bytes << 8 | text.charAt(from + k);
            }
            size = skin.feed(n, bytes);
        }
        return size;
    }

    static int read(SkinTwists skin, int plan, String text) {
        feed(skin, text);
        return skin.read(plan);
    }

    static int ring(SkinTwists skin, int... letters) {
        for (int letter : letters) {
            skin.letter(letter);
        }
        return skin.ring();
    }
}
