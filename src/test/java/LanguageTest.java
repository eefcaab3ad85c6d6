import java.io.IOException;
import java.lang.reflect.Executable;
import java.lang.reflect.Field;
import java.lang.reflect.Modifier;
import java.nio.file.Files;
import java.nio.file.Path;
import java.util.ArrayList;
import java.util.List;
import java.util.regex.Matcher;
import java.util.regex.Pattern;

/** Those rules of LANGUAGE.md that can be told from the text of the program or from its classes. */
public final class LanguageTest {
    private static final int MOST_PARAMETERS = 7;
    private static final int MOST_LINES = 60;
    private static final int MOST_CLASSES = 12;
    private static final int MOST_FIELDS = 20;

    /** What the program has no use for, though the rules leave some of it under conditions that no test can tell. */
    private static final String[] NEVER = {
        "->", "::", "\\bpackage\\b", "\\bthrows?\\b", "\\btry\\b", "\\bcatch\\b", "\\bfinally\\b", "\\bsynchronized\\b",
        "\\bassert\\b", "\\bstatic\\s*\\{", "\\bSystem\\b", "\\bMath\\b", "\\bIterator\\b", "\\bThread\\b", "\\bRandom\\b",
        "\\bdouble\\b", "\\bfloat\\b", "\\binstanceof\\b", "\\bequals\\b", "\\bhashCode\\b", "\\btoString\\b", "\\bprotected\\b",
    };

    public static void main(String[] args) throws IOException {
        String text = Files.readString(Path.of("src/main/java/RequestGate.java"));
        String code = withoutCommentsAndTexts(text);
        for (String never : NEVER) {
            Check.due("the program holds " + never, Pattern.compile(never).matcher(code).find(), false);
        }
        importsAreListed(code);
        listsAreUsedAsListed(code);
        methodsAreShort(code);
        classesAreSmall();
        Check.end();
    }

    /** Rules 3 and 6 speak of code; a word in a comment breaks none of them. */
    private static String withoutCommentsAndTexts(String text) {
        Pattern skipped = Pattern.compile("/\\*.*?\\*/|//[^\\n]*|\"[^\"\\n]*\"|'(\\\\.|[^'\\\\])'", Pattern.DOTALL);
        Matcher matcher = skipped.matcher(text);
        // Line ends stay, so that the lines of a method can still be counted.
        return matcher.replaceAll(found -> found.group().replaceAll("[^\\n]", " "));
    }

    private static void importsAreListed(String code) {
        Check.about("4. The library: only what stands here.");
        Matcher matcher = Pattern.compile("import\\s+([\\w.*]+);").matcher(code);
        while (matcher.find()) {
            Check.due("import " + matcher.group(1) + " is listed", matcher.group(1).equals("java.util.ArrayList"), true);
        }
    }

    private static void listsAreUsedAsListed(String code) {
        Check.about("4. ArrayList, List: new, add, add(int, x), get, set, remove(int), size, isEmpty, clear, for over it");
        Matcher matcher = Pattern.compile("\\b(rules|users|services|all)\\.(\\w+)").matcher(code);
        while (matcher.find()) {
            Check.due("a list's " + matcher.group(2) + " is listed",
                    List.of("add", "get", "set", "remove", "size", "isEmpty", "clear").contains(matcher.group(2)), true);
        }
    }

    private static void methodsAreShort(String code) {
        Check.about("11. Methods stay short (some sixty lines)");
        Pattern head = Pattern.compile("^ +(?!new |return |else )[\\w<>\\[\\] ]*\\w+\\([^;{}]*\\) \\{$", Pattern.MULTILINE);
        Matcher matcher = head.matcher(code);
        int methods = 0;
        while (matcher.find()) {
            int depth = 1;
            int lines = 1;
            for (int i = matcher.end(); depth > 0 && i < code.length(); i++) {
                char c = code.charAt(i);
                depth += c == '{' ? 1 : c == '}' ? -1 : 0;
                lines += c == '\n' ? 1 : 0;
            }
            Check.due("lines of" + matcher.group() + " " + lines, lines <= MOST_LINES, true);
            methods++;
        }
        Check.due("methods were found", methods > RequestGate.class.getDeclaredMethods().length, true);
    }

    private static void classesAreSmall() {
        List<Class<?>> classes = new ArrayList<>();
        classes.add(RequestGate.class);
        classes.addAll(List.of(RequestGate.class.getDeclaredClasses()));
        Check.about("11. the file has at most some twelve classes");
        Check.due("classes, " + classes.size(), classes.size() <= MOST_CLASSES, true);
        for (Class<?> one : classes) {
            fieldsAreFewAndStaticOnesFinal(one);
            Check.about("11. A method takes at most seven parameters.");
            List<Executable> callable = new ArrayList<>(List.of(one.getDeclaredMethods()));
            callable.addAll(List.of(one.getDeclaredConstructors()));
            for (Executable executable : callable) {
                Check.due("parameters of " + executable, executable.getParameterCount() <= MOST_PARAMETERS, true);
            }
        }
    }

    private static void fieldsAreFewAndStaticOnesFinal(Class<?> one) {
        int fields = 0;
        Check.about("5. Static fields are final: constants of int, long, boolean, char or String");
        for (Field field : one.getDeclaredFields()) {
            if (Modifier.isStatic(field.getModifiers())) {
                Check.due(field + " is a constant",
                        Modifier.isFinal(field.getModifiers()) && field.getType() == int.class, true);
            } else {
                fields++;
            }
        }
        Check.about("11. a class some twenty fields beside its constants");
        Check.due("fields of " + one + ", " + fields, fields <= MOST_FIELDS, true);
    }
}
