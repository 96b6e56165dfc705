import java.io.IOException;
import java.lang.reflect.Constructor;
import java.lang.reflect.Field;
import java.lang.reflect.Method;
import java.lang.reflect.Modifier;
import java.nio.file.Files;
import java.nio.file.Path;
import java.util.Arrays;
import java.util.List;
import java.util.Set;
import java.util.TreeSet;
import java.util.regex.Matcher;
import java.util.regex.Pattern;

/**
 * Looks for what LANGUAGE.md rules out and a text or reflection shows: the face, words that may not
 * stand in the program, and methods too long.
 */
public final class LanguageTest {
    private static final String[] FORBIDDEN = {
        "^\\s*import\\b", "^\\s*package\\b", "->", "::", "\\bfinally\\b", "\\bsynchronized\\b",
        "\\bassert\\b", "\\btry\\b", "\\bcatch\\b", "\\bprotected\\b", "\\bnative\\b",
        "\\bSystem\\.(?!arraycopy)", "\\bThread\\b", "\\bvar\\b", "Exact\\b", "\\bhashCode\\b",
        "\\btoString\\b", "\\bfloat\\b", "\\bdouble\\b", "static\\s*\\{", "[^\\x00-\\x7f]"};
    private static final int LONGEST_METHOD = 60;

    private LanguageTest() {
    }

    public static void main(String[] args) throws IOException {
        List<String> lines = Files.readAllLines(Path.of(args[0]));
        forbiddenWords(lines);
        methodLengths(lines);
        face();
        nestedClasses();
        Check.end();
    }

    private static void forbiddenWords(List<String> lines) {
        for (String forbidden : FORBIDDEN) {
            Pattern pattern = Pattern.compile(forbidden);
            for (int i = 0; i < lines.size(); i++) {
                boolean isComment = lines.get(i).strip().startsWith("*") || lines.get(i).contains("/**");
                Matcher matcher = pattern.matcher(lines.get(i));
                Check.isTrue("line " + (i + 1) + " without " + forbidden, isComment || !matcher.find());
            }
        }
    }

    private static void methodLengths(List<String> lines) {
        int start = -1;
        String indent = "";
        for (int i = 0; i < lines.size(); i++) {
            Matcher head = Pattern.compile("^( {4}| {8})[\\w].*[)] ?(throws [\\w, ]+)?\\{$")
                    .matcher(lines.get(i));
            if (start < 0 && head.find()) {
                start = i;
                indent = head.group(1);
            } else if (start >= 0 && lines.get(i).equals(indent + "}")) {
                Check.isTrue("the method of line " + (start + 1), i - start < LONGEST_METHOD);
                start = -1;
            }
        }
    }

    private static void face() {
        Set<String> names = new TreeSet<>();
        for (Method method : RaggedColumns.class.getDeclaredMethods()) {
            int modifiers = method.getModifiers();
            if (Modifier.isPublic(modifiers)) {
                Check.isTrue("one method " + method.getName(), names.add(method.getName()));
            }
        }
        for (Method method : RaggedColumns.class.getDeclaredMethods()) {
            boolean isPublic = Modifier.isPublic(method.getModifiers());
            Check.isTrue(method.getName() + " is of the face or private", isPublic
                    || method.isSynthetic() || Modifier.isPrivate(method.getModifiers()));
            Check.isTrue(method.getName() + " is no private namesake",
                    isPublic || !names.contains(method.getName()));
        }
        Check.equal("the face", String.join(" ", names), "append bestColumn clearText cost costFor "
                + "costIfMarked digest firstError firstWord insert lineOf lineWidth lines linesOn load "
                + "mark orphans pageOf pages paragraphs reason remove savedStates saving setColumn "
                + "setMark setOptimal setPage setPenalties setSpace stairAt stairs undo widows "
                + "wordWidth words");
        for (Field field : RaggedColumns.class.getDeclaredFields()) {
            boolean isConstant = field.getName().equals("NONE") && Modifier.isPublic(field.getModifiers());
            Check.isTrue(field.getName() + " is private", isConstant
                    || Modifier.isPrivate(field.getModifiers()));
        }
        Constructor<?>[] constructors = RaggedColumns.class.getDeclaredConstructors();
        Check.equal("one constructor", constructors.length, 1);
        Check.isTrue("it is public", Modifier.isPublic(constructors[0].getModifiers()));
    }

    private static void nestedClasses() {
        Class<?>[] classes = RaggedColumns.class.getDeclaredClasses();
        Check.isTrue("some twelve classes", classes.length <= 12);
        for (Class<?> nested : classes) {
            Check.isTrue(nested + " is static", Modifier.isStatic(nested.getModifiers()));
            Check.isTrue(nested + " is not public", !Modifier.isPublic(nested.getModifiers()));
            Check.isTrue(nested + " has some twenty fields",
                    Arrays.stream(nested.getDeclaredFields()).count() <= 20);
            for (Field field : nested.getDeclaredFields()) {
                Check.isTrue(nested + "." + field.getName() + " is final if static",
                        !Modifier.isStatic(field.getModifiers())
                                || Modifier.isFinal(field.getModifiers()));
            }
        }
    }
}
