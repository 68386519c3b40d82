import java.io.IOException;
import java.lang.reflect.Modifier;
import java.nio.file.Files;
import java.nio.file.Path;

/** What the tests of the project share: a house, short ways to use it, and a count of wrong answers. */
final class Check {
    private static String document = "";
    final String test;
    HandleHouse house = new HandleHouse();
    private String promise = "";
    private int wrong = 0;
    private int asked = 0;

    Check(String test) {
        this.test = test;
    }

    /** A new house; the answers that follow are those of a promise. */
    HandleHouse fresh(String promise) {
        this.promise = promise;
        house = new HandleHouse();
        return house;
    }

    /** A new house; the answers that follow are those of a sentence, which the document must have word by word. */
    HandleHouse sentence(String words) {
        fresh("'" + words + "'");
        if (!document().contains(words)) {
            wrong++;
            System.out.println(test + ": the document doesn't say: " + words);
        }
        return house;
    }

    /** A new house for more of the same sentence. */
    HandleHouse again() {
        house = new HandleHouse();
        return house;
    }

    /** The document as one line, each gap one blank. */
    static String document() {
        if (document.isEmpty()) {
            try {
                document = Files.readString(Path.of("../shared/DOC.md")).replaceAll("\\s+", " ");
            } catch (IOException e) {
                throw new IllegalStateException("../shared/DOC.md can't be read", e);
            }
        }
        return document;
    }

    void due(String what, long got, long want) {
        asked++;
        if (got != want) {
            wrong++;
            System.out.println(test + ", " + promise + ": " + what + " answered " + got + ", due is " + want);
        }
    }

    void due(String what, boolean got, boolean want) {
        due(what, got ? 1L : 0L, want ? 1L : 0L);
    }

    /** Ends the test: with exit code 1 if an answer was wrong. */
    void end() {
        System.out.println(test + ": " + asked + " answers, " + wrong + " wrong");
        if (wrong != 0 || asked == 0) {
            System.exit(1);
        }
    }

    void put(int... numbers) {
        for (int n : numbers) {
            house.put(n);
        }
    }

    int type(int result, int... places) {
        put(places);
        return house.type(result);
    }

    /** A handle; the numbers behind c are its parts. */
    int make(int form, int a, int b, long c, int... parts) {
        put(parts);
        return house.make(form, a, b, c);
    }

    /** A handle that must be refused. */
    void refused(String what, int refusal, int form, int a, int b, long c, int... parts) {
        int types = house.told(6);
        int handles = house.told(7);
        due(what, make(form, a, b, c, parts), -1);
        due(what + ": refused()", house.refused(), refusal);
        due(what + ": no type is made", house.told(6), types);
        due(what + ": no handle is made", house.told(7), handles);
    }

    /**
     * Types until there are so many, mostly one call each, as an object is used for 512 calls: INVOKE
     * puts H ahead of a type's places, and what it makes has the next number.
     */
    void fillTypes(int most) {
        int next = house.told(6);
        for (int i = 0; i < 40 && next < most; i++) {
            int type = i < 20 ? type(i) : type(i - 20, 1);
            next = Math.max(next, type + 1);
            for (int h = 0; h < 9 && next < most; h++) {
                house.make(27, 0, type, 0);
                type = next;
                next++;
            }
        }
    }

    /**
     * Handles until there are so many, by few calls: each NUMBER of a text is made, though the
     * definition has no PARAMETERS.
     */
    void fillHandles(int most) {
        StringBuilder text = new StringBuilder("(def fill i()(fill");
        for (int n = house.told(7) + 2; n < most; n++) {
            text.append(' ').append(100 + n);
        }
        read(text.append("))").toString());
    }

    int constant(int kind, long c) {
        return make(0, kind, 0, c);
    }

    int self(int kind) {
        return make(2, kind, 0, 0);
    }

    int empty(int result, int... places) {
        return make(34, 0, type(result, places), 0);
    }

    /** AS (form 12) or FORCED (13) that passes a value for a PLACE. */
    int placeAs(int form, int from, int to) {
        return make(form, 0, type(to, from), 0, self(to));
    }

    /** AS (form 12) or FORCED (13) that passes a RESULT. */
    int resultAs(int form, int from, int to) {
        return make(form, 0, type(to, from), 0, self(from));
    }

    /** A VALUE: the BOX of a PLAIN number. */
    int box(int plain, long number) {
        return kept(resultAs(12, plain, 7), number);
    }

    /** A VALUE: a new ROW. */
    int row(int kind, int size) {
        return kept(make(20, kind, 0, 0), size);
    }

    /** A VALUE: the OBJECT of H with a handle. */
    int object(int h) {
        return kept(make(1, 0, 0, 0, h));
    }

    /** The handle that makes INSTANCES of a CLASS, by a PUBLIC MAKER without PLACES. */
    int maker(int kind) {
        house.method(kind, 0, empty(0, kind), false, 3);
        return house.find(kind, kind, 0, type(0), 3);
    }

    /** A VALUE: a new INSTANCE of a CLASS. */
    int instance(int kind) {
        return kept(maker(kind));
    }

    int run(int h, int fuel, long... values) {
        for (long v : values) {
            house.pass(v);
        }
        return house.run(h, fuel);
    }

    /** A run that comes to a number. */
    void comes(String what, int h, long number, long... values) {
        due(what, run(h, 10000, values), 0);
        due(what + ": result()", house.result(), number);
        if (house.told(2) < 7) {
            due(what + ": no object", house.told(3), 0);
        }
    }

    /** A run that comes to an OBJECT of a kind (0 for NULL) with a number. */
    void comesTo(String what, int kind, long number, int h, long... values) {
        comes(what, h, number, values);
        due(what + ": the kind of the object", house.told(3), kind);
    }

    /** A run that throws an object of E. */
    void fails(String what, int h, long code, long... values) {
        due(what, run(h, 10000, values), 1);
        due(what + ": what was thrown", house.told(3), 19);
        due(what + ": its code", house.result(), code);
    }

    /** Runs and keeps what it came to or threw. */
    int kept(int h, long... values) {
        run(h, 10000, values);
        return house.keep();
    }

    /** The type of a handle must have this result and these places. */
    void hasType(String what, int h, int result, int... places) {
        int type = house.handle(h, 0);
        due(what + ": result", house.typeAbout(type, -1), result);
        due(what + ": places", house.typeAbout(type, -2), places.length);
        for (int i = 0; i < places.length; i++) {
            due(what + ": place " + i, house.typeAbout(type, i), places[i]);
        }
    }

    /** Feeds a text, twenty bytes a time; answers how long it is. */
    int feed(String text) {
        int length = 0;
        for (int at = 0; at < text.length(); at += 20) {
            int[] fours = new int[5];
            int n = Math.min(20, text.length() - at);
            for (int i = 0; i < n; i++) {
                fours[i / 4] |= (text.charAt(at + i) & 255) << 24 - i % 4 * 8;
            }
            house.feed(fours[0], fours[1], fours[2], fours[3], fours[4]);
            length = house.end(n);
        }
        return length;
    }

    int read(String text) {
        feed(text);
        return house.read();
    }

    /** A text must have this fault at this place. */
    void faulty(String text, int fault, int place) {
        due(text, read(text), fault);
        due(text + ": fault(0)", house.fault(0), fault);
        due(text + ": fault(1)", house.fault(1), place);
    }

    /** A text must have this fault where the mark @ stands, which isn't fed. */
    void faultAt(int fault, String marked) {
        faulty(marked.replace("@", ""), fault, marked.indexOf('@'));
    }

    void sound(String text) {
        faulty(text, 0, -1);
    }

    static long letters(String name) {
        long letters = 0;
        for (int i = 0; i < name.length(); i++) {
            letters = letters << 8 | name.charAt(i) & 255;
        }
        return letters;
    }

    int named(String name) {
        return house.named(letters(name));
    }

    static int publicMethods() {
        int count = 0;
        for (var method : HandleHouse.class.getDeclaredMethods()) {
            count += Modifier.isPublic(method.getModifiers()) ? 1 : 0;
        }
        return count;
    }

    static int visibleMembers() {
        int count = 0;
        for (var method : HandleHouse.class.getDeclaredMethods()) {
            count += Modifier.isPrivate(method.getModifiers()) ? 0 : 1;
        }
        for (var field : HandleHouse.class.getDeclaredFields()) {
            count += Modifier.isPrivate(field.getModifiers()) ? 0 : 1;
        }
        return count + HandleHouse.class.getDeclaredConstructors().length;
    }
}
