import java.lang.reflect.Field;
import java.lang.reflect.Method;
import java.lang.reflect.Modifier;
import java.nio.file.Files;
import java.nio.file.Path;
import java.util.regex.Matcher;
import java.util.regex.Pattern;

/** Rules of ../shared/LANGUAGE.md that can be seen in the words of the source. */
public final class LanguageTest {
    private static final Check check = new Check("LanguageTest");

    public static void main(String[] args) throws Exception {
        String source = Files.readString(Path.of("src/main/java/HandleHouse.java"));
        String code = source.replaceAll("(?s)/\\*.*?\\*/", "").replaceAll("//[^\n]*", "");
        check.fresh("rules");
        for (String word : new String[] {"throw", "try", "catch", "finally", "synchronized", "assert", "import",
            "package", "extends", "double", "float", "protected", "Exception", "Object"}) {
            check.due("rule 6: " + word, count(code, "\\b" + word + "\\b"), 0);
        }
        check.due("rule 2: lambdas and method references", count(code, "->|::"), 0);
        check.due("rule 5: static initialisers", count(code, "static\\s*\\{"), 0);
        check.due("rule 5: static fields that aren't final", count(code, "\\bstatic (?!final)"), 0);
        check.due("rule 1: one public class", count(code, "\\bpublic final class\\b"), 1);
        check.due("rule 1: classes inside are private and static",
            count(code, "\\bclass\\b"), 1 + count(code, "    private static final class\\b"));
        check.due("rule 11: some twelve classes", count(code, "\\bclass\\b") <= 13, true);
        shortMethods(code);
        namesAndFields();
        library(code);
        check.end();
    }

    private static int count(String text, String pattern) {
        Matcher matcher = Pattern.compile(pattern).matcher(text);
        int count = 0;
        while (matcher.find()) {
            count++;
        }
        return count;
    }

    private static void namesAndFields() {
        check.due("rule 11: some twenty fields", ownFields(HandleHouse.class) <= 22, true);
        for (Class<?> inside : HandleHouse.class.getDeclaredClasses()) {
            check.due("rule 11: some twenty fields of " + inside.getSimpleName(), ownFields(inside) <= 22, true);
            for (Method method : inside.getDeclaredMethods()) {
                check.due("rule 1: the name of " + method, isPublicName(method.getName()), false);
            }
        }
        for (Method method : HandleHouse.class.getDeclaredMethods()) {
            boolean isPrivate = Modifier.isPrivate(method.getModifiers());
            check.due("rule 1: the name of " + method, isPrivate && isPublicName(method.getName()), false);
        }
    }

    private static int ownFields(Class<?> owner) {
        int count = 0;
        for (Field field : owner.getDeclaredFields()) {
            count += Modifier.isStatic(field.getModifiers()) ? 0 : 1;
        }
        return count;
    }

    private static boolean isPublicName(String name) {
        for (Method method : HandleHouse.class.getMethods()) {
            if (method.getDeclaringClass() == HandleHouse.class && method.getName().equals(name)) {
                return true;
            }
        }
        return false;
    }

    private static void library(String code) {
        Matcher matcher = Pattern.compile("\\b([A-Z][a-z]\\w*)\\.(\\w+)").matcher(code);
        String used = " Math.max Math.min System.arraycopy ";
        while (matcher.find()) {
            boolean own = count(code, "class " + matcher.group(1) + "\\b") == 1;
            check.due("rule 4: " + matcher.group(), own || used.contains(" " + matcher.group() + " "), true);
        }
        check.due("rule 3: nothing is made but its own classes and arrays of numbers", count(code, "\\bnew (?!Kinds|Types|Handles|Store|Forms|Members"
            + "|Machine|Words|Texts|Row|Thing|int|long|boolean)"), 0);
    }

    private static void shortMethods(String code) {
        Matcher matcher = Pattern.compile("(?m)^( {4}| {8})\\w[^=;\\n]*\\(([^\\n]*)\\) \\{\\n(?s:(.*?))\\n\\1\\}$").matcher(code);
        int methods = 0;
        while (matcher.find()) {
            methods++;
            check.due("rule 11: lines of " + matcher.group().lines().findFirst().get(),
                matcher.group().lines().count() <= 62, true);
            check.due("rule 11: parameters", matcher.group(2).split(",").length <= 7, true);
        }
        check.due("methods were looked at", methods > 100, true);
    }
}
