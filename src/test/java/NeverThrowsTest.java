import java.util.Random;

/** Any calls with any numbers: none throws, and what a house tells of itself stays within the limits. */
public final class NeverThrowsTest {
    private static final int HOUSES = 400;
    private static final int CALLS = 512;
    private static final int[] EDGES = {Integer.MIN_VALUE, Integer.MAX_VALUE, -1, 0, -2, 19, 20, 31, 32, 299, 300, 499, 500};
    private static final String[] WORDS = {"(", "(", ")", ")", "def", "if", "let", "do", "loop", "try", "as", "force",
        "null", "row", "size", "get", "set", "is", "same", "throw", "code", "i", "j", "v", "o", "xi", "xo", "e", "k0",
        "a", "b", "f", "1", "2l", "-3", "+", "?", "(def f i (", "(def a j ((a i)) ", "(loop ((a 1)) (", "99999999999"};

    private static final Check check = new Check("NeverThrowsTest");
    private static Random random;

    public static void main(String[] args) {
        for (int seed = 0; seed < HOUSES; seed++) {
            random = new Random(seed);
            HandleHouse house = check.fresh("seed " + seed);
            for (int call = 0; call < CALLS; call++) {
                anyCall(house);
            }
            limits(house);
        }
        check.end();
    }

    private static void limits(HandleHouse house) {
        int[] most = {1000, 100, 300, 500, 100};
        for (int i = 0; i < most.length; i++) {
            int told = house.told(4 + i);
            check.due("told(" + (4 + i) + ") within its limit", told >= 0 && told <= most[i], true);
        }
        check.due("definitions within their limit", house.fault(2) <= 60, true);
    }

    private static int any() {
        switch (random.nextInt(8)) {
            case 0:
                return random.nextInt();
            case 1:
                return EDGES[random.nextInt(EDGES.length)];
            case 2:
                return random.nextInt(500);
            default:
                return random.nextInt(24) - 2;
        }
    }

    private static long anyLong() {
        return random.nextInt(5) == 0 ? random.nextLong() : any();
    }

    private static void anyCall(HandleHouse house) {
        switch (random.nextInt(22)) {
            case 0, 1, 2 -> house.put(any());
            case 3 -> house.newClass(any(), any());
            case 4 -> house.type(any());
            case 5, 6, 7, 8 -> house.make(random.nextInt(40) - 1, any(), any(), anyLong());
            case 9 -> house.field(any(), any(), any(), random.nextBoolean(), any());
            case 10 -> house.method(any(), any(), any(), random.nextBoolean(), any());
            case 11 -> house.find(any(), any(), any(), any(), any());
            case 12 -> house.aim(house.target(any()), any());
            case 13 -> house.off(house.point());
            case 14 -> house.pass(anyLong());
            case 15, 16, 17 -> anyRun(house);
            case 18 -> house.keep();
            case 19 -> anyText(house);
            case 20 -> anyFeed(house);
            default -> anyQuestion(house);
        }
    }

    private static void anyRun(HandleHouse house) {
        int h = random.nextInt(Math.max(1, house.told(7)));
        int places = house.typeAbout(house.handle(h, 0), -2);
        for (int i = 0; i < places; i++) {
            house.pass(random.nextInt(3) - 1);
        }
        house.run(h, random.nextBoolean() ? any() : 10000);
    }

    private static void anyText(HandleHouse house) {
        StringBuilder text = new StringBuilder();
        int n = random.nextInt(40);
        for (int i = 0; i < n; i++) {
            text.append(WORDS[random.nextInt(WORDS.length)]).append(random.nextInt(3) == 0 ? "" : " ");
        }
        check.feed(text.toString());
        house.read();
    }

    private static void anyFeed(HandleHouse house) {
        house.feed(random.nextInt(), random.nextInt(), any(), any(), any());
        house.end(any());
        house.read();
    }

    private static void anyQuestion(HandleHouse house) {
        house.typeAbout(any(), any());
        house.handle(any(), any());
        house.constant(any());
        house.refused();
        house.told(any());
        house.result();
        house.value(any(), any());
        house.element(any(), any(), any());
        house.fault(any());
        house.named(anyLong());
        house.may(any(), any(), random.nextBoolean());
    }
}
