import java.lang.reflect.Modifier;

/** What the tests of the project share: a house, short ways to use it, and a count of wrong answers. */
final class Check {
    final String test;
    HandleHouse house = new HandleHouse();
    private String promise = "";
    private int wrong = 0;
    private int asked = 0;

    Check(String test) {
        this.test = test;
    }

    /** A new house; the answers that follow are those of a promise. */
    HandleHouse fresh(String promise) {
        this.promise = promise;
        house = new HandleHouse();
        return house;
    }

    void due(String what, long got, long want) {
        asked++;
        if (got != want) {
            wrong++;
            System.out.println(test + ", " + promise + ": " + what + " answered " + got + ", due is " + want);
        }
    }

    void due(String what, boolean got, boolean want) {
        due(what, got ? 1L : 0L, want ? 1L : 0L);
    }

    /** Ends the test: with exit code 1 if an answer was wrong. */
    void end() {
        System.out.println(test + ": " + asked + " answers, " + wrong + " wrong");
        if (wrong != 0 || asked == 0) {
            System.exit(1);
        }
    }

    void put(int... numbers) {
        for (int n : numbers) {
            house.put(n);
        }
    }

    int type(int result, int... places) {
        put(places);
        return house.type(result);
    }

    /** A handle; the numbers behind c are its parts. */
    int make(int form, int a, int b, long c, int... parts) {
        put(parts);
        return house.make(form, a, b, c);
    }

    /** A handle that must be refused. */
    void refused(String what, int refusal, int form, int a, int b, long c, int... parts) {
        int types = house.told(6);
        int handles = house.told(7);
        due(what, make(form, a, b, c, parts), -1);
        due(what + ": refused()", house.refused(), refusal);
        due(what + ": no type is made", house.told(6), types);
        due(what + ": no handle is made", house.told(7), handles);
    }

    int constant(int kind, long c) {
        return make(0, kind, 0, c);
    }

    int run(int h, int fuel, long... values) {
        for (long v : values) {
            house.pass(v);
        }
        return house.run(h, fuel);
    }

    /** A run that comes to a number. */
    void comes(String what, int h, long number, long... values) {
        due(what, run(h, 10000, values), 0);
        due(what + ": result()", house.result(), number);
    }

    /** A run that throws an object of E. */
    void fails(String what, int h, long code, long... values) {
        due(what, run(h, 10000, values), 1);
        due(what + ": what was thrown", house.told(3), 19);
        due(what + ": its code", house.result(), code);
    }

    /** Runs and keeps what it came to or threw. */
    int kept(int h, long... values) {
        run(h, 10000, values);
        return house.keep();
    }

    /** The type of a handle must have this result and these places. */
    void hasType(String what, int h, int result, int... places) {
        int type = house.handle(h, 0);
        due(what + ": result", house.typeAbout(type, -1), result);
        due(what + ": places", house.typeAbout(type, -2), places.length);
        for (int i = 0; i < places.length; i++) {
            due(what + ": place " + i, house.typeAbout(type, i), places[i]);
        }
    }

    /** Feeds a text, twenty bytes a time; answers how long it is. */
    int feed(String text) {
        int length = 0;
        for (int at = 0; at < text.length(); at += 20) {
            int[] fours = new int[5];
            int n = Math.min(20, text.length() - at);
            for (int i = 0; i < n; i++) {
                fours[i / 4] |= (text.charAt(at + i) & 255) << 24 - i % 4 * 8;
            }
            house.feed(fours[0], fours[1], fours[2], fours[3], fours[4]);
            length = house.end(n);
        }
        return length;
    }

    int read(String text) {
        feed(text);
        return house.read();
    }

    /** A text must have this fault at this place. */
    void faulty(String text, int fault, int place) {
        due(text, read(text), fault);
        due(text + ": fault(0)", house.fault(0), fault);
        due(text + ": fault(1)", house.fault(1), place);
    }

    void sound(String text) {
        faulty(text, 0, -1);
    }

    static long letters(String name) {
        long letters = 0;
        for (int i = 0; i < name.length(); i++) {
            letters = letters << 8 | name.charAt(i) & 255;
        }
        return letters;
    }

    int named(String name) {
        return house.named(letters(name));
    }

    static int publicMethods() {
        int count = 0;
        for (var method : HandleHouse.class.getDeclaredMethods()) {
            count += Modifier.isPublic(method.getModifiers()) ? 1 : 0;
        }
        return count;
    }

    static int visibleMembers() {
        int count = 0;
        for (var method : HandleHouse.class.getDeclaredMethods()) {
            count += Modifier.isPrivate(method.getModifiers()) ? 0 : 1;
        }
        for (var field : HandleHouse.class.getDeclaredFields()) {
            count += Modifier.isPrivate(field.getModifiers()) ? 0 : 1;
        }
        return count + HandleHouse.class.getDeclaredConstructors().length;
    }
}
