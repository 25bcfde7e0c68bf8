import java.io.IOException;
import java.lang.reflect.Field;
import java.lang.reflect.Method;
import java.lang.reflect.Modifier;
import java.nio.file.Files;
import java.nio.file.Path;
import java.util.HashSet;
import java.util.Set;
import java.util.regex.Matcher;
import java.util.regex.Pattern;

/** The rules of LANGUAGE.md that can be seen by looking at the source and at the class. */
public final class LanguageTest {
    private static final Path SOURCE = Path.of("src/main/java/SkinTwists.java");
    private static final String[] FORBIDDEN = {
        "\\bthrow\\b", "\\bthrows\\b", "\\btry\\b", "\\bcatch\\b", "\\bfinally\\b", "\\bsynchronized\\b",
        "\\bassert\\b", "\\bimport\\b", "\\bpackage\\b", "->", "::", "\\w+Exact\\b", "\\bThread\\b",
        "\\bSystem\\.(?!arraycopy\\b)", "\\bprotected\\b", "\\bstatic\\s*\\{", "\\bvar\\b", "\\bObject\\b"
    };
    private static final Set<String> CONSTANTS = Set.of("NONE", "UNKNOWN", "OUTSIDE", "NOT", "FULL", "LARGE");

    private static final Set<Class<?>> STATIC_KINDS = Set.of(int.class, long.class, boolean.class, char.class,
        String.class, int[].class, long[].class, char[].class, byte[].class);

    private final Due due = new Due();

    public static void main(String[] args) throws IOException {
        LanguageTest test = new LanguageTest();
        test.noForbiddenWords();
        test.onlyTheFaceIsSeen();
        test.methodsAreShort();
        test.fieldsAreFew();
        test.due.end("LanguageTest");
    }

    private static String code() throws IOException {
        String source = Files.readString(SOURCE);
        return source.replaceAll("(?s)/\\*.*?\\*/", "").replaceAll("//[^\n]*", "");
    }

    private void noForbiddenWords() throws IOException {
        String code = code();
        for (String word : FORBIDDEN) {
            Matcher matcher = Pattern.compile(word).matcher(code);
            due.is("rules 1, 2, 4, 5, 6: " + word, matcher.find() ? 1 : 0, 0);
        }
    }

    private void onlyTheFaceIsSeen() {
        Set<String> names = new HashSet<>();
        for (Method method : SkinTwists.class.getDeclaredMethods()) {
            if (!Modifier.isPrivate(method.getModifiers())) {
                due.is("rule 1: public " + method, Modifier.isPublic(method.getModifiers()) ? 1 : 0, 1);
                names.add(method.getName());
            }
        }
        due.is("rule 1: the face has 29 calls", names.size(), 29);
        for (Field field : SkinTwists.class.getDeclaredFields()) {
            boolean constant = CONSTANTS.contains(field.getName());
            due.is("rule 1: " + field, Modifier.isPrivate(field.getModifiers()) ? 0 : 1, constant ? 1 : 0);
        }
        int classes = 1;
        for (Class<?> inside : SkinTwists.class.getDeclaredClasses()) {
            classes++;
            due.is("rule 2: static " + inside, Modifier.isStatic(inside.getModifiers()) ? 1 : 0, 1);
            for (Method method : inside.getDeclaredMethods()) {
                due.is("rule 1: name of " + method, names.contains(method.getName()) ? 1 : 0, 0);
                due.is("rule 11: " + method, method.getParameterCount() <= 7 ? 1 : 0, 1);
            }
        }
        for (Method method : SkinTwists.class.getDeclaredMethods()) {
            boolean hidden = Modifier.isPrivate(method.getModifiers());
            due.is("rule 1: name of " + method, hidden && names.contains(method.getName()) ? 1 : 0, 0);
        }
        due.is("rule 11: classes", classes <= 12 ? 1 : 0, 1);
    }

    private void methodsAreShort() throws IOException {
        String[] lines = Files.readString(SOURCE).split("\n");
        int start = 0;
        for (int k = 0; k < lines.length; k++) {
            if (lines[k].matches(" {4,8}[^ ].*\\) \\{")) {
                start = k;
            } else if (lines[k].matches(" {4,8}\\}")) {
                due.is("rule 11: lines up to " + (k + 1), k - start <= 60 || lines[k].length() == 5 ? 1 : 0, 1);
            }
        }
    }

    private void fieldsAreFew() {
        fieldsOf(SkinTwists.class);
        for (Class<?> inside : SkinTwists.class.getDeclaredClasses()) {
            fieldsOf(inside);
        }
    }

    private void fieldsOf(Class<?> owner) {
        int own = 0;
        for (Field field : owner.getDeclaredFields()) {
            if (Modifier.isStatic(field.getModifiers())) {
                due.is("rule 5: final " + field, Modifier.isFinal(field.getModifiers()) ? 1 : 0, 1);
                due.is("rule 5: kind of " + field, STATIC_KINDS.contains(field.getType()) ? 1 : 0, 1);
            } else {
                own++;
            }
        }
        due.is("rule 11: fields of " + owner, own <= 20 ? 1 : 0, 1);
    }
}
