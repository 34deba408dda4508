import java.io.IOException;
import java.lang.reflect.Executable;
import java.lang.reflect.Field;
import java.lang.reflect.Modifier;
import java.nio.file.Files;
import java.nio.file.Path;
import java.util.List;
import java.util.regex.Matcher;
import java.util.regex.Pattern;

/** Those rules of LANGUAGE.md that can be seen from the class file and from the text, by their numbers. */
public final class LanguageTest {
    private static final Check CHECK = new Check();
    private static final int LONGEST_METHOD = 60;
    private static final String MEMBER = "( {4}| {8})(public|private) .*[^;]";
    private static final String ALLOWED_THROW = "throw new (IllegalStateException|IllegalArgumentException"
        + "|IndexOutOfBoundsException|ArithmeticException|UnsupportedOperationException)\\((\"[^\"]*\")?\\);";

    private LanguageTest() {
    }

    public static void main(String[] args) throws IOException {
        String source = Files.readString(Path.of("src/main/java/RosterSolve.java"));
        List<String> code = source.replaceAll("(?s)/\\*.*?\\*/", "").replaceAll("//[^\n]*", "").lines().toList();
        nestedClasses();
        members(RosterSolve.class);
        for (Class<?> nested : RosterSolve.class.getDeclaredClasses()) {
            members(nested);
        }
        noneOf(code);
        throwsAndRows(code);
        shortMethods(code);
        CHECK.end("LanguageTest");
    }

    private static void holds(String what, boolean so) {
        CHECK.due(what, so ? 1 : 0, 1);
    }

    private static void nestedClasses() {
        Class<?>[] nested = RosterSolve.class.getDeclaredClasses();
        holds("rule 11: at most twelve classes", nested.length < 12);
        for (Class<?> one : nested) {
            int modifiers = one.getModifiers();
            holds("rule 1: hidden and static: " + one.getName(), Modifier.isStatic(modifiers)
                && !Modifier.isPublic(modifiers) && !Modifier.isProtected(modifiers));
        }
    }

    private static void members(Class<?> one) {
        int fields = 0;
        for (Field field : one.getDeclaredFields()) {
            boolean isStatic = Modifier.isStatic(field.getModifiers());
            holds("rule 5: final where static: " + field, !isStatic || Modifier.isFinal(field.getModifiers()));
            fields += isStatic ? 0 : 1;
        }
        holds("rule 11: at most twenty fields: " + one.getName(), fields <= 20);
        for (Executable method : one.getDeclaredMethods()) {
            holds("rule 11: at most seven parameters: " + method, method.getParameterCount() <= 7);
        }
    }

    private static void noneOf(List<String> code) {
        String[] words = {
            "import", "package", "synchronized", "assert", "try", "catch", "finally", "double", "float", "\\w+Exact",
            "Random", "Thread", "System\\.(?!arraycopy)\\w+", "->", "::",
        };
        for (String word : words) {
            Pattern seen = Pattern.compile(word.matches("\\w.*") ? "\\b" + word + "\\b" : word);
            CHECK.due("rules 2 to 4, 6 and 13: no " + word, code.stream().filter(l -> seen.matcher(l).find()).count(), 0);
        }
    }

    /** Rule 6, and the document's "All memory is rows made once": what is new stands in a constructor or is thrown. */
    private static void throwsAndRows(List<String> code) {
        boolean inConstructor = false;
        for (String line : code) {
            if (line.matches(MEMBER)) {
                inConstructor = line.matches(" *(public|private) [A-Z]\\w*\\(.*");
            }
            Matcher thrown = Pattern.compile("\\bthrow\\b.*").matcher(line);
            if (thrown.find()) {
                holds("rule 6: " + line.strip(), thrown.group().matches(ALLOWED_THROW) && !inConstructor);
            } else if (line.matches(".*\\bnew\\b.*")) {
                holds("rows made once: " + line.strip(), inConstructor);
            }
        }
    }

    private static void shortMethods(List<String> code) {
        int began = 0;
        int methods = 0;
        for (int i = 0; i < code.size(); i++) {
            if (code.get(i).matches(MEMBER)) {
                began = i;
                methods++;
            } else if (code.get(i).matches(" {4,8}}")) {
                boolean isShort = i - began < LONGEST_METHOD;
                holds("rule 11: a short method from line " + (began + 1), isShort);
            }
        }
        holds("methods were seen", methods > RosterSolve.class.getDeclaredMethods().length);
    }
}
