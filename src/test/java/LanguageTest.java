import java.lang.reflect.Field;
import java.lang.reflect.Method;
import java.lang.reflect.Modifier;
import java.nio.file.Files;
import java.nio.file.Path;
import java.util.ArrayList;
import java.util.List;
import java.util.Set;
import java.util.regex.Matcher;
import java.util.regex.Pattern;

/** What can be seen of the rules of LANGUAGE.md in the source and in the compiled classes. */
public final class LanguageTest {
    private static final Due due = new Due();
    private static final Set<String> LIBRARY = Set.of("Math", "Integer", "Long", "System", "Arrays", "List", "String", "StringBuilder");

    public static void main(String[] args) throws Exception {
        String source = Files.readString(Path.of("src/main/java/ZoneRelay.java"));
        String code = withoutTexts(source);
        rule1And6NoSuchWords(code);
        rule4OnlyTheLibraryThatIsAllowed(code);
        rule5StaticFields();
        rule11Sizes(source);
        due.finish();
    }

    private static String withoutTexts(String source) {
        return source.replaceAll("(?s)/\\*.*?\\*/", " ").replaceAll("//[^\n]*", " ")
            .replaceAll("\"(?:[^\"\\\\]|\\\\.)*\"", "TEXT").replaceAll("'(?:[^'\\\\]|\\\\.)+'", "SIGN");
    }

    private static void rule1And6NoSuchWords(String code) {
        String[] words = {
            "throw", "throws", "try", "catch", "finally", "synchronized", "assert", "package", "import", "volatile", "transient",
            "native", "Object", "equals", "hashCode", "toString", "Random", "nanoTime", "currentTimeMillis", "Thread", "getClass", "var"
        };
        for (String word : words) {
            due.holds("no " + word, !Pattern.compile("\\b" + word + "\\b").matcher(code).find());
        }
        due.holds("no lambda", !code.contains("->"));
        due.holds("no method reference", !code.contains("::"));
        due.holds("no text is joined by +", !Pattern.compile("TEXT\\s*\\+|\\+\\s*TEXT").matcher(code).find());
        due.holds("no name ends in Exact", !Pattern.compile("\\w+Exact\\b").matcher(code).find());
        due.holds("only signs from 1 to 127", code.chars().allMatch(sign -> sign >= 1 && sign <= 127));
    }

    private static void rule4OnlyTheLibraryThatIsAllowed(String code) {
        Set<String> own = new java.util.TreeSet<>();
        Matcher classes = Pattern.compile("\\b(?:class|record|enum|interface)\\s+(\\w+)").matcher(code);
        while (classes.find()) {
            own.add(classes.group(1));
        }
        Matcher names = Pattern.compile("\\b([A-Z]\\w*[a-z]\\w*)\\b").matcher(code);
        while (names.find()) {
            String name = names.group(1);
            due.holds(name + " is known", own.contains(name) || LIBRARY.contains(name));
        }
        Matcher calls = Pattern.compile("\\bMath\\.(\\w+)|\\bInteger\\.(\\w+)|\\bSystem\\.(\\w+)").matcher(code);
        while (calls.find()) {
            due.holds(calls.group() + " is allowed", calls.group().matches(
                "Math\\.(max|min|abs|floorMod|floorDiv)|Integer\\.(compare|MAX_VALUE|MIN_VALUE)|System\\.arraycopy"));
        }
    }

    private static List<Class<?>> allClasses() {
        List<Class<?>> all = new ArrayList<>(List.of(ZoneRelay.class.getDeclaredClasses()));
        all.add(ZoneRelay.class);
        return all;
    }

    private static void rule5StaticFields() {
        for (Class<?> type : allClasses()) {
            for (Field field : type.getDeclaredFields()) {
                if (Modifier.isStatic(field.getModifiers())) {
                    due.holds(field + " is final", Modifier.isFinal(field.getModifiers()));
                    due.holds(field + " is a constant", field.getType().isPrimitive() || field.getType() == int[].class);
                }
            }
        }
    }

    private static void rule11Sizes(String source) {
        due.holds("at most twelve classes", allClasses().size() <= 12);
        for (Class<?> type : allClasses()) {
            int fields = 0;
            for (Field field : type.getDeclaredFields()) {
                fields += Modifier.isStatic(field.getModifiers()) ? 0 : 1;
            }
            due.holds(type + " has " + fields + " fields", fields <= 20);
            for (Method method : type.getDeclaredMethods()) {
                due.holds(method + " has few parameters", method.getParameterCount() <= 7);
            }
        }
        rule11ShortMethods(source.split("\n"));
    }

    private static void rule11ShortMethods(String[] lines) {
        int methods = 0;
        for (int begin = 0; begin < lines.length; begin++) {
            Matcher head = Pattern.compile("((?: {4}){1,2})(?!class|enum|for|if|while|switch)[a-zA-Z].*\\) \\{").matcher(lines[begin]);
            if (!head.matches() || lines[begin].trim().matches("(for|if|while|switch) .*|\\} else.*")) {
                continue;
            }
            int end = begin;
            while (end < lines.length && !lines[end].equals(head.group(1) + "}")) {
                end++;
            }
            methods++;
            due.holds("the method in line " + (begin + 1) + " has " + (end - begin + 1) + " lines", end - begin < 60);
        }
        due.holds("methods are found: " + methods, methods > 60);
    }
}
