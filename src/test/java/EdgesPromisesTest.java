import java.lang.reflect.Method;
import java.lang.reflect.Modifier;
import java.util.regex.Matcher;
import java.util.regex.Pattern;

/** Sentences of 'What it is', 'The public face' and of promises 1 and 2. */
public final class EdgesPromisesTest {
    private static final Check check = new Check("EdgesPromisesTest");

    public static void main(String[] args) {
        calls();
        face();
        equalHandles();
        newObject();
        rowOfTwenty();
        rowIsTaken();
        check.end();
    }

    private static void calls() {
        HandleHouse house = check.sentence("An object is used for at most 512 calls after it has been made;");
        for (int call = 0; call < 510; call++) {
            check.due("call " + call, house.type(call % 20), call % 20);
        }
        check.due("the 511th", house.told(6), 20);
        check.due("the 512th", house.type(20), -1);
    }

    private static void face() {
        check.sentence("public static final int NONE = -1;");
        check.due("NONE", HandleHouse.NONE, -1);
        check.due("public methods", Check.publicMethods(), 28);
        check.due("visible members: NONE, the constructor, the methods", Check.visibleMembers(), 30);
        check.due("the class is public and final", HandleHouse.class.getModifiers(), Modifier.PUBLIC | Modifier.FINAL);
        String face = Check.document().replaceAll("^.*```java (.*?)```.*$", "$1");
        Matcher told = Pattern.compile("public (\\w+) (\\w+)\\(([^)]*)\\);").matcher(face);
        int methods = 0;
        while (told.find()) {
            methods++;
            check.due("as told: " + told.group(), hasMethod(told.group(1), told.group(2), told.group(3)), true);
        }
        check.due("methods told", methods, 28);
    }

    private static boolean hasMethod(String result, String name, String parameters) {
        for (Method method : HandleHouse.class.getDeclaredMethods()) {
            StringBuilder types = new StringBuilder();
            for (Class<?> type : method.getParameterTypes()) {
                types.append(types.length() == 0 ? "" : ", ").append(type);
            }
            boolean same = method.getName().equals(name) && method.getReturnType().toString().equals(result);
            if (same && types.toString().equals(parameters.replaceAll(" \\w+(,|$)", "$1")) && method.getModifiers() == Modifier.PUBLIC) {
                return true;
            }
        }
        return false;
    }

    private static void equalHandles() {
        HandleHouse house = check.sentence("Equal handles are one; some come out as simpler ones.");
        int plus = check.make(3, 0, 5, 0);
        check.due("equal", check.make(3, 0, 5, 0), plus);
        check.due("simpler", check.make(12, 0, house.handle(plus, 0), 0, plus), plus);
        check.due("one", house.told(7), 1);
    }

    private static void newObject() {
        HandleHouse house = check.sentence("No CLASSES, members, TYPES, HANDLES, VALUES, TARGETS, POINTS; nothing ran; the rows are empty.");
        check.due("no values wait", house.run(0, 1), -1);
        check.due("no HANDLES", house.handle(0, 0), -1);
        check.due("no CLASSES", house.may(20, 20, false), false);
        for (int what = 4; what <= 8; what++) {
            check.due("told(" + what + ")", house.told(what), 0);
        }
        check.due("no TYPES", house.typeAbout(0, -2), -1);
        check.due("no VALUES", house.value(0, 0), 0);
        check.due("no TARGETS", house.aim(0, 0), false);
        check.due("no POINTS", house.off(0), false);
        check.due("nothing ran", house.told(0), -1);
        check.due("no STEPS", house.told(1), 0);
        check.due("no kind", house.told(2), 0);
        check.due("no OBJECT", house.told(3), 0);
        check.due("no RESULT", house.result(), 0);
        check.due("nothing to keep", house.keep(), -1);
        check.due("nothing was refused", house.refused(), 0);
        check.due("no FAULT", house.fault(0), 0);
        check.due("no place", house.fault(1), -1);
        check.due("no DEFINITIONS", house.fault(2), 0);
        check.due("no members", house.find(20, 20, 0, 0, 4), -1);
        check.due("TEXT is empty", house.end(0), 0);
        check.due("the row is empty", house.type(5), 0);
        check.due("no PLACES", house.typeAbout(0, -2), 0);
        check.due("no values wait", house.run(check.constant(5, 3), 1), 0);
        check.due("the first CLASS", house.newClass(7, 0), 20);
        check.due("the first POINT", house.point(), 0);
        check.due("the first TARGET", house.target(0), 0);
        check.due("two objects share nothing", new HandleHouse().told(6), 0);
    }

    private static void rowOfTwenty() {
        HandleHouse house = check.sentence("One more number comes to the row, 20 at most; false, refused, when there are 20.");
        int plus = check.make(3, 0, 5, 0);
        int minus = check.make(3, 1, 5, 0);
        for (int i = 0; i < 20; i++) {
            check.due("number " + i, house.put(i < 19 ? plus : minus), true);
        }
        check.due("the 21st", house.put(99), false);
        check.due("the 22nd", house.put(plus), false);
        int h = house.make(17, 0, 0, 0);
        check.due("all twenty", house.handle(h, 4), 20);
        check.due("the first", house.handle(h, 5), plus);
        check.due("the last", house.handle(h, 24), minus);
        check.due("any number", house.put(Integer.MIN_VALUE), true);
        check.due("any number", house.put(Integer.MAX_VALUE), true);
        check.due("refused by who takes it", house.type(5), -1);
    }

    private static void rowIsTaken() {
        HandleHouse house = check.sentence("(Calls that take the row empty it, also when they are refused.)");
        check.put(5);
        check.due("type()", house.type(5), 0);
        check.due("emptied", house.type(5), 1);
        check.put(99);
        check.due("type() refused", house.type(5), -1);
        check.due("emptied", house.type(5), 1);
        check.put(5, 5, 5, 5, 5, 5, 5, 5, 5, 5, 5);
        check.due("type() of eleven", house.type(5), -1);
        check.due("emptied", house.type(5), 1);
        check.put(5);
        check.due("type() of no RESULT", house.type(99), -1);
        check.due("emptied", house.type(5), 1);
        check.put(0);
        check.due("make() refused", house.make(2, 5, 0, 0), -1);
        check.due("emptied", house.make(2, 5, 0, 0), 0);
        check.put(0);
        check.due("make()", house.make(1, 0, 0, 0), 1);
        check.due("emptied", house.make(2, 6, 0, 0), 2);
        check.put(6);
        house.newClass(7, 0);
        house.typeAbout(0, 0);
        house.handle(0, 0);
        house.field(20, 1, 5, true, 3);
        house.method(20, 1, 0, true, 3);
        house.find(20, 20, 1, 0, 4);
        check.run(0, 9, 5);
        check.sound("(def f i((a i))(+ a 1))");
        check.due("the others leave it", house.type(6), house.handle(2, 0));
    }
}
