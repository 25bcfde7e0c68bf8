import java.io.IOException;
import java.nio.file.Files;
import java.nio.file.Path;
import java.util.List;

/** The answers that README.md shows are those of the class. */
public final class ReadmeTest {
    private final Due due = new Due();
    private final List<String> lines;
    private int shown = 0;

    private ReadmeTest(List<String> lines) {
        this.lines = lines;
    }

    public static void main(String[] args) throws IOException {
        ReadmeTest test = new ReadmeTest(Files.readAllLines(Path.of("README.md")));
        test.example();
        test.namesEachTest();
        test.due.end("ReadmeTest");
    }

    private void example() {
        SkinTwists skin = new SkinTwists();
        due.is("new SkinTwists(): two handles", skin.count(0), 2);
        skin.letter(1);
        int r = skin.ring();
        skin.letter(2);
        int s = skin.ring();
        shows("skin.meets(r, s);", skin.meets(r, s));
        shows("skin.told(r, 3);", skin.told(r, 3));
        shows("skin.feed(4, 0x61316231L);", skin.feed(4, 0x61316231L));
        shows("skin.read(0);", skin.read(0));
        shows("skin.carried(0, r, s);", skin.carried(0, r, s));
        shows("skin.carry(r, s, 3, SkinTwists.NONE);", skin.carry(r, s, 3, SkinTwists.NONE));
        shows("skin.turn(1, 0);", skin.turn(1, 0));
        shows("skin.chain(2, 0, 1);", skin.chain(2, 0, 1));
        shows("skin.same(2, 3);", skin.same(2, 3));
        shows("skin.feed(8, 0x6131623163316232L);", skin.feed(8, 0x6131623163316232L));
        shows("skin.read(4);", skin.read(4));
        shows("skin.order(4, 24);", skin.order(4, 24));
        due.is("calls that README.md shows with an answer", answersShown(), shown);
        due.is("the text that README.md shows", Due.read(skin, 5, "(a1b1)3 c1-"), 7);
    }

    /** The answer stands behind the call's line, ahead of a colon if there is one. */
    private void shows(String call, int answer) {
        shown++;
        for (String line : lines) {
            if (line.startsWith(call)) {
                String told = line.substring(line.indexOf("//") + 2).split(":")[0].trim();
                due.is("README.md: " + call, Integer.parseInt(told), answer);
                return;
            }
        }
        due.is("README.md has " + call, 0, 1);
    }

    private int answersShown() {
        int many = 0;
        for (String line : lines) {
            if (line.matches("skin\\..*// *-?\\d+(:.*)?")) {
                many++;
            }
        }
        return many;
    }

    private void namesEachTest() throws IOException {
        String page = String.join("\n", lines);
        try (var files = Files.list(Path.of("src/test/java"))) {
            for (Path file : files.toList()) {
                String name = file.getFileName().toString().replace(".java", "");
                due.is("README.md names " + name, page.contains("`" + name + "`") ? 1 : 0, 1);
            }
        }
    }
}
