import java.io.IOException;
import java.lang.reflect.Constructor;
import java.lang.reflect.Field;
import java.lang.reflect.Method;
import java.lang.reflect.Modifier;
import java.nio.file.Files;
import java.nio.file.Path;
import java.util.Set;
import java.util.StringJoiner;
import java.util.TreeSet;

/** The public face of the class is the one that the document tells, and nothing more. */
public final class FaceTest {
    private static final Check check = new Check("FaceTest");

    public static void main(String[] args) throws ReflectiveOperationException, IOException {
        String document = Files.readString(Path.of("../shared/DOC.md"));
        String source = Files.readString(Path.of("src/main/java/HandleHouse.java"));
        check.fresh("the public face");
        int from = document.indexOf("```java\n");
        int to = document.indexOf("\n}\n```", from);
        check.due("the document tells it", from >= 0 && to > from, true);
        Set<String> told = new TreeSet<>();
        for (String line : document.substring(from, to).split("\n")) {
            if (line.endsWith(";")) {
                told.add(line.strip());
                check.due("in the source: " + line.strip(), isIn(source, line.strip()), true);
            }
        }
        Set<String> there = new TreeSet<>();
        collect(there);
        for (String sign : told) {
            check.due(sign + " is there", there.contains(withoutNames(sign)), true);
        }
        check.due("how many there are", there.size(), told.size());
        check.due("public and final", HandleHouse.class.getModifiers(), Modifier.PUBLIC | Modifier.FINAL);
        check.due("of no other class", HandleHouse.class.getSuperclass() == Object.class, true);
        check.due("of no interface", HandleHouse.class.getInterfaces().length, 0);
        check.due("NONE", HandleHouse.NONE, -1);
        check.end();
    }

    /** Names of parameters aren't kept in class files, so the source is asked for them. */
    private static boolean isIn(String source, String sign) {
        boolean isField = sign.contains("=");
        return source.contains("\n    " + (isField ? sign : sign.substring(0, sign.length() - 1) + " {") + "\n");
    }

    private static void collect(Set<String> there) throws ReflectiveOperationException {
        for (Field field : HandleHouse.class.getDeclaredFields()) {
            if (!Modifier.isPrivate(field.getModifiers())) {
                there.add(Modifier.toString(field.getModifiers()) + " " + field.getType() + " " + field.getName()
                    + " = " + field.get(null) + ";");
            }
        }
        for (Constructor<?> made : HandleHouse.class.getDeclaredConstructors()) {
            there.add(Modifier.toString(made.getModifiers()) + " HandleHouse" + parameters(made.getParameterTypes()));
        }
        for (Method method : HandleHouse.class.getDeclaredMethods()) {
            if (!Modifier.isPrivate(method.getModifiers())) {
                there.add(Modifier.toString(method.getModifiers()) + " " + method.getReturnType() + " "
                    + method.getName() + parameters(method.getParameterTypes()));
            }
        }
    }

    private static String parameters(Class<?>[] types) {
        StringJoiner joined = new StringJoiner(", ", "(", ");");
        for (Class<?> type : types) {
            joined.add(type.toString());
        }
        return joined.toString();
    }

    private static String withoutNames(String sign) {
        return sign.contains("=") ? sign : sign.replaceAll("(int|long|boolean) \\w+(?=[,)])", "$1");
    }
}
