import java.lang.reflect.Method;

/** What the tests of the project share: it counts wrong answers and plays written-out calls. */
final class Check {
    private final String test;
    private int wrong = 0;
    private int asked = 0;

    Check(String test) {
        this.test = test;
    }

    void due(String what, long got, long want) {
        asked++;
        if (got != want) {
            wrong++;
            System.out.println(test + ": " + what + " answered " + got + ", due is " + want);
        }
    }

    void due(String what, boolean got, boolean want) {
        due(what, got ? 1L : 0L, want ? 1L : 0L);
    }

    /** Ends the test: with exit code 1 if an answer was wrong. */
    void end() {
        System.out.println(test + ": " + asked + " answers, " + wrong + " wrong");
        if (wrong != 0 || asked == 0) {
            System.exit(1);
        }
    }

    static void putAll(HandleHouse house, int... numbers) {
        for (int n : numbers) {
            house.put(n);
        }
    }

    static int type(HandleHouse house, int result, int... places) {
        putAll(house, places);
        return house.type(result);
    }

    /** Makes a handle; the numbers behind c are its parts. */
    static int make(HandleHouse house, int form, int a, int b, long c, int... parts) {
        putAll(house, parts);
        return house.make(form, a, b, c);
    }

    static int run(HandleHouse house, int h, int fuel, long... values) {
        for (long v : values) {
            house.pass(v);
        }
        return house.run(h, fuel);
    }

    /** Feeds a text, twenty bytes a time, without reading it. */
    static int text(HandleHouse house, String text) {
        int length = 0;
        for (int at = 0; at < text.length(); at += 20) {
            int[] fours = new int[5];
            int n = Math.min(20, text.length() - at);
            for (int i = 0; i < n; i++) {
                fours[i / 4] |= (text.charAt(at + i) & 255) << 24 - i % 4 * 8;
            }
            house.feed(fours[0], fours[1], fours[2], fours[3], fours[4]);
            length = house.end(n);
        }
        return length;
    }

    static int read(HandleHouse house, String text) {
        text(house, text);
        return house.read();
    }

    static long letters(String name) {
        long letters = 0;
        for (int i = 0; i < name.length(); i++) {
            letters = letters << 8 | name.charAt(i) & 255;
        }
        return letters;
    }

    static int named(HandleHouse house, String name) {
        return house.named(letters(name));
    }

    /** How many public methods the class declares. */
    static int publicMethods() {
        int count = 0;
        for (Method method : HandleHouse.class.getDeclaredMethods()) {
            count += java.lang.reflect.Modifier.isPublic(method.getModifiers()) ? 1 : 0;
        }
        return count;
    }
}
