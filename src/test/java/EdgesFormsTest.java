/** Sentences of Terms 5, FORMS 0 to 18: what they are made of, at their edges, and what they do when called. */
public final class EdgesFormsTest {
    private static final long MIN = Long.MIN_VALUE;
    private static final long MAX = Long.MAX_VALUE;
    private static final Check check = new Check("EdgesFormsTest");

    public static void main(String[] args) {
        formNumbers();
        firstPlaces();
        kindsEqual();
        constantNumbers();
        constantValues();
        handleForm();
        selfForm();
        operationForms();
        divisions();
        shifts();
        comparisons();
        wraps();
        drop();
        dropCalls();
        moveForms();
        moveCalls();
        bind();
        collect();
        collectOfV();
        collectCalls();
        fold();
        foldOfV();
        foldCalls();
        result();
        spreadForms();
        spreadCalls();
        gatherForms();
        asForms();
        asCalls();
        forced();
        guard();
        catchForms();
        catchCalls();
        finallyForms();
        finallyCalls();
        finallyThrowing();
        finallyNeighbours();
        switches();
        check.end();
    }

    /** The handle of a text's definition. */
    private static int def(String name, String rest) {
        check.sound("(def " + name + " " + rest + ")");
        return check.named(name);
    }

    /** (I I I)I: the digits of its values. */
    private static int digits() {
        return def("digits", "i ((a i) (b i) (c i)) (+ (* 100 a) (+ (* 10 b) c))");
    }

    /** (I)V: writes a digit behind those that a row's ELEMENT 0 has. */
    private static int log(int row) {
        int log = def("log", "v ((r xi) (k i)) (set r 0 (+ (* 10 (get r 0)) k))");
        return check.make(6, 0, 0, row, log);
    }

    private static int mark(int log, int digit) {
        return check.make(6, 0, 0, digit, log);
    }

    private static void formNumbers() {
        HandleHouse house = check.sentence("5. FORMS of HANDLES, numbered, with a, b, c and PARTS: h, f, g, in this order. PLACES of x are written (..), its"
            + " RESULT behind.");
        int less = check.make(3, 11, 5, 0);
        int plus = check.make(3, 0, 5, 0);
        int minus = check.make(3, 1, 5, 0);
        int guard = check.make(14, 0, 0, 0, less, plus, minus);
        int[] due = {14, 0, 0, 3, less, plus, minus};
        for (int i = 0; i < due.length; i++) {
            check.due("what " + (i + 1), house.handle(guard, i + 1), due[i]);
        }
        check.comes("f", guard, 7, 3, 4);
        check.comes("g", guard, 1, 4, 3);
        check.refused("another order", 3, 14, 0, 0, 0, plus, less, minus);
        check.refused("no FORM -1", 1, -1, 0, 0, 0);
        check.refused("no FORM 35 to make", 1, 35, 0, 0, 0);
    }

    private static void firstPlaces() {
        check.sentence("\"First PLACES of x\": any number of them from 0 on, none too.");
        int plus = check.make(3, 0, 5, 0);
        check.hasType("none", check.make(14, 0, 0, 0, check.constant(1, 1), plus, plus), 5, 5, 5);
        check.hasType("one", check.make(14, 0, 0, 0, check.empty(1, 5), plus, plus), 5, 5, 5);
        check.hasType("all", check.make(14, 0, 0, 0, check.empty(1, 5, 5), plus, plus), 5, 5, 5);
        check.refused("one more than all", 3, 14, 0, 0, 0, check.empty(1, 5, 5, 5), plus, plus);
        int mixed = check.empty(5, 5, 6);
        check.refused("not from 0 on", 3, 14, 0, 0, 0, check.empty(1, 6), mixed, mixed);
    }

    private static void kindsEqual() {
        check.sentence("A PLACE's kind equals another's where it is said to be.");
        int wide = check.empty(5, 7);
        check.refused("RESULT: BELOW it isn't enough", 3, 9, 0, 0, 0, check.make(20, 15, 0, 0), wide);
        check.refused("COLLECT: nor is MAY", 3, 7, 0, 0, 0, check.self(6), check.self(5));
        check.refused("CATCH: E for a CLASS", 1, 15, 20, 0, 0, check.self(5), check.empty(5, 19));
        check.house.newClass(19, 0);
        check.refused("CATCH: E for a CLASS that there is", 3, 15, 20, 0, 0, check.self(5), check.empty(5, 19));
    }

    private static void constantNumbers() {
        HandleHouse house = check.sentence("0 CONSTANT, kind a, c: ()a; PLAIN: the number c;");
        check.hasType("of C", check.constant(4, 65535), 4);
        check.comesTo("of C", 0, 65535, check.constant(4, 65535));
        check.due("its STEPS", house.told(1), 1);
        check.comesTo("of J", 0, MIN, check.constant(6, MIN));
        check.due("its c", house.constant(check.constant(6, MIN)), MIN);
        check.comesTo("-1 of a PLAIN kind is a number", 0, -1, check.constant(2, -1));
        check.refused("with a PART", 1, 0, 5, 0, 1, 0);
        check.refused("of V", 1, 0, 0, 0, 0);
        check.refused("NULL of V", 1, 0, 0, 0, -1);
        check.refused("of kind -1", 1, 0, -1, 0, 0);
        check.refused("of kind 20", 1, 0, 20, 0, -1);
    }

    private static void constantValues() {
        check.sentence("REFERENCE: c -1 is NULL, else VALUE c.");
        check.comesTo("NULL", 0, 0, check.constant(16, -1));
        check.refused("no VALUE 0", 1, 0, 16, 0, 0);
        int row = check.row(16, 7);
        check.due("the first VALUE", row, 0);
        for (int plain = 1; plain <= 6; plain++) {
            check.comesTo("0 of a PLAIN kind is no VALUE", 0, 0, check.constant(plain, 0));
            check.comesTo("nor is one that is bound", 0, 0, check.make(6, 0, 0, 0, check.self(plain)));
            check.comesTo("nor one that waits", 0, 0, check.self(plain), 0);
        }
        check.comesTo("VALUE 0", 16, 7, check.constant(16, 0));
        check.comesTo("VALUE 0 as O", 16, 7, check.constant(7, 0));
        check.refused("VALUE 0 of another kind", 3, 0, 15, 0, 0);
        check.refused("VALUE 1", 1, 0, 16, 0, 1);
        check.refused("VALUE -2", 1, 0, 16, 0, -2);
        check.refused("a VALUE that is 0 as an int", 1, 0, 16, 0, 1L << 32);
        check.refused("the least", 1, 0, 16, 0, MIN);
        check.refused("the greatest", 1, 0, 16, 0, MAX);
        check.comesTo("one handle is the ROW as it is then", 16, 7, check.constant(16, 0));
    }

    private static void handleForm() {
        HandleHouse house = check.sentence("1 HANDLE h: ()H, an OBJECT of H with it.");
        int plus = check.make(3, 0, 5, 0);
        int h = check.make(1, 0, 0, 0, plus);
        check.hasType("HANDLE", h, 18);
        check.comesTo("it", 18, plus, h);
        check.due("h isn't called", house.told(1), 1);
        check.refused("of none", 1, 1, 0, 0, 0);
        check.refused("of two", 1, 1, 0, 0, 0, plus, plus);
        check.refused("of -1", 1, 1, 0, 0, 0, -1);
        check.refused("of the next", 1, 1, 0, 0, 0, house.told(7));
    }

    private static void selfForm() {
        HandleHouse house = check.sentence("2 SELF, kind a: (a)a.");
        house.newClass(7, 0);
        for (int kind = 1; kind <= 20; kind++) {
            check.hasType("SELF of " + kind, check.self(kind), kind, kind);
        }
        for (int kind : new int[] {-1, 0, 21, 32}) {
            check.refused("SELF of " + kind, 1, 2, kind, 0, 0);
        }
        check.comes("a number", check.self(6), MAX, MAX);
        check.comesTo("NULL", 0, 0, check.self(20), -1);
        check.comesTo("an OBJECT", 20, 0, check.self(20), check.instance(20));
    }

    private static void operationForms() {
        check.sentence("3 OPERATION a on b (5 I, 6 J): (b b)b:");
        long[] due = {35, 25, 150, 6, 0, 30 & 5, 30 | 5, 30 ^ 5, 30 << 5, 0, 0};
        for (int b = 5; b <= 6; b++) {
            for (int a = 0; a <= 10; a++) {
                int h = check.make(3, a, b, 0);
                check.hasType("OPERATION " + a, h, b, b, b);
                check.comes("OPERATION " + a + " on " + b, h, due[a], 30, 5);
            }
        }
        for (int b : new int[] {-1, 0, 1, 4, 7, 13, 32}) {
            check.refused("on " + b, 1, 3, 0, b, 0);
        }
        for (int a : new int[] {Integer.MIN_VALUE, -1, 13, Integer.MAX_VALUE}) {
            check.refused("OPERATION " + a, 1, 3, a, 5, 0);
        }
    }

    private static void divisions() {
        HandleHouse house = check.sentence("0 + 1 - 2 * 3 / 4 rest (towards 0; by 0: ERROR 3)");
        int lowest = Integer.MIN_VALUE;
        long[][] rows = {{7, 2, 3, 1}, {-7, 2, -3, -1}, {7, -2, -3, 1}, {-7, -2, 3, -1}, {0, 5, 0, 0}, {1, lowest, 0, 1},
            {9, 1, 9, 0}, {-9, 1, -9, 0}, {9, -1, -9, 0}};
        for (long[] row : rows) {
            for (int b = 5; b <= 6; b++) {
                check.comes(row[0] + " / " + row[1], check.make(3, 3, b, 0), row[2], row[0], row[1]);
                check.comes(row[0] + " rest " + row[1], check.make(3, 4, b, 0), row[3], row[0], row[1]);
            }
        }
        for (int b = 5; b <= 6; b++) {
            check.fails("/ 0", check.make(3, 3, b, 0), 3, 7, 0);
            check.fails("0 / 0", check.make(3, 3, b, 0), 3, 0, 0);
            check.fails("rest 0", check.make(3, 4, b, 0), 3, 7, 0);
            check.due("an ERROR in one STEP", house.told(1), 1);
        }
    }

    private static void shifts() {
        check.sentence("5 and 6 or 7 xor 8 << 9 >> 10 >>> (by the lowest 5 bits, of J 6);");
        long[] by = {0, 1, 5, 31, 32, 33, 63, 64, 65, -1, -32, -33};
        for (long n : by) {
            int m = (int) n;
            check.again();
            check.comes("I << " + n, check.make(3, 8, 5, 0), 0x12345678 << m, 0x12345678, n);
            check.comes("I >> " + n, check.make(3, 9, 5, 0), -0x12345678 >> m, -0x12345678, n);
            check.comes("I >>> " + n, check.make(3, 10, 5, 0), -0x12345678 >>> m, -0x12345678, n);
            check.comes("J << " + n, check.make(3, 8, 6, 0), 0x123456789abcdefL << n, 0x123456789abcdefL, n);
            check.comes("J >> " + n, check.make(3, 9, 6, 0), MIN >> n, MIN, n);
            check.comes("J >>> " + n, check.make(3, 10, 6, 0), MIN >>> n, MIN, n);
        }
        check.comes("J << 2^32: its lowest 6 bits", check.make(3, 8, 6, 0), 3, 3, 1L << 32);
        check.comes("J << 2^32 + 1", check.make(3, 8, 6, 0), 6, 3, (1L << 32) + 1);
        check.comes("and of signs", check.make(3, 5, 6, 0), MIN, -1, MIN);
        check.comes("xor of signs", check.make(3, 7, 5, 0), -1, Integer.MAX_VALUE, Integer.MIN_VALUE);
    }

    private static void comparisons() {
        check.sentence("(b b)Z: 11 less 12 equal.");
        for (int b = 5; b <= 6; b++) {
            long low = b == 5 ? Integer.MIN_VALUE : MIN;
            long high = b == 5 ? Integer.MAX_VALUE : MAX;
            int less = check.make(3, 11, b, 0);
            int equal = check.make(3, 12, b, 0);
            check.hasType("less", less, 1, b, b);
            check.hasType("equal", equal, 1, b, b);
            check.comes("less of the bounds", less, 1, low, high);
            check.comes("not less of the bounds", less, 0, high, low);
            check.comes("not less of equal ones", less, 0, 4, 4);
            check.comes("less by one", less, 1, 3, 4);
            check.comes("equal", equal, 1, low, low);
            check.comes("not equal", equal, 0, low, high);
        }
        check.comes("equal in the lowest 32 bits alone", check.make(3, 12, 6, 0), 0, 1L << 32, 0);
    }

    private static void wraps() {
        check.sentence("All wrap.");
        int top = Integer.MAX_VALUE;
        int low = Integer.MIN_VALUE;
        check.comes("I +", check.make(3, 0, 5, 0), low, top, 1);
        check.comes("I -", check.make(3, 1, 5, 0), top, low, 1);
        check.comes("I *", check.make(3, 2, 5, 0), 1, top, top);
        check.comes("I /", check.make(3, 3, 5, 0), low, low, -1);
        check.comes("I rest", check.make(3, 4, 5, 0), 0, low, -1);
        check.comes("J +", check.make(3, 0, 6, 0), MIN, MAX, 1);
        check.comes("J -", check.make(3, 1, 6, 0), MAX, MIN, 1);
        check.comes("J *", check.make(3, 2, 6, 0), -2, MAX, 2);
        check.comes("J /", check.make(3, 3, 6, 0), MIN, MIN, -1);
        check.comes("J rest", check.make(3, 4, 6, 0), 0, MIN, -1);
    }

    private static void drop() {
        HandleHouse house = check.sentence("4 DROP h: the PLACES of TYPE b come at place a (0 .. how many h has);");
        int less = check.make(3, 11, 5, 0);
        int jo = check.type(19, 6, 7);
        check.hasType("at 0", check.make(4, 0, jo, 0, less), 1, 6, 7, 5, 5);
        check.hasType("at 1", check.make(4, 1, jo, 0, less), 1, 5, 6, 7, 5);
        check.hasType("at 2", check.make(4, 2, jo, 0, less), 1, 5, 5, 6, 7);
        for (int a : new int[] {Integer.MIN_VALUE, -1, 3, Integer.MAX_VALUE}) {
            check.refused("at " + a, 2, 4, a, jo, 0, less);
        }
        check.hasType("at 0 of none", check.make(4, 0, jo, 0, check.constant(5, 1)), 5, 6, 7);
        check.refused("at 1 of none", 2, 4, 1, jo, 0, check.constant(5, 1));
        check.refused("TYPE -1", 1, 4, 0, -1, 0, less);
        check.refused("the next TYPE", 1, 4, 0, house.told(6), 0, less);
        int eight = check.type(0, 1, 1, 1, 1, 1, 1, 1, 1);
        int nine = check.type(0, 1, 1, 1, 1, 1, 1, 1, 1, 1);
        check.hasType("to ten PLACES", check.make(4, 2, eight, 0, less), 1, 5, 5, 1, 1, 1, 1, 1, 1, 1, 1);
        check.refused("to eleven PLACES", 4, 4, 2, nine, 0, less);
    }

    private static void dropCalls() {
        check.sentence("h is called without them.");
        int minus = check.make(3, 1, 5, 0);
        int jo = check.type(0, 6, 7);
        check.comes("at 0", check.make(4, 0, jo, 0, minus), 6, 1, -1, 8, 2);
        check.comes("at 1", check.make(4, 1, jo, 0, minus), 6, 8, 1, -1, 2);
        check.comes("at 2", check.make(4, 2, jo, 0, minus), 6, 8, 2, 1, -1);
        check.due("STEPS", check.house.told(1), 2);
    }

    private static void moveForms() {
        check.sentence("5 MOVE h to TYPE b, whose RESULT is h's; behind h the PARTS have for each PLACE of h the number of one of b,"
            + " of the same kind:");
        int get = check.make(22, 15, 0, 0);
        int type = check.type(5, 6, 5, 15);
        check.hasType("MOVE", check.make(5, 0, type, 0, get, 2, 1), 5, 6, 5, 15);
        check.refused("another RESULT", 3, 5, 0, check.type(6, 5, 15), 0, get, 1, 0);
        check.refused("RESULT V", 3, 5, 0, check.type(0, 5, 15), 0, get, 1, 0);
        check.refused("RESULT C", 3, 5, 0, check.type(4, 5, 15), 0, get, 1, 0);
        check.refused("a number too few", 1, 5, 0, type, 0, get, 2);
        check.refused("a number too many", 1, 5, 0, type, 0, get, 2, 1, 1);
        check.refused("without h", 1, 5, 0, type, 0);
        check.refused("the number 3 of three", 2, 5, 0, type, 0, get, 2, 3);
        check.refused("the number -1", 2, 5, 0, type, 0, get, -1, 1);
        check.refused("the last number -1", 2, 5, 0, type, 0, get, 2, -1);
        check.refused("the first number 3", 2, 5, 0, type, 0, get, 3, 1);
        check.refused("no such HANDLE, no number", 1, 5, 0, type, 0, 99);
        check.refused("HANDLE -1, no number", 1, 5, 0, type, 0, -1);
        check.refused("the first of another kind", 3, 5, 0, type, 0, get, 1, 1);
        check.refused("the last of another kind", 3, 5, 0, type, 0, get, 2, 0);
        check.refused("no such TYPE", 1, 5, 0, 99, 0, get, 2, 1);
        check.refused("no such HANDLE", 1, 5, 0, type, 0, 99, 2, 1);
        check.hasType("of no PLACES", check.make(5, 0, check.type(5, 6), 0, check.constant(5, 1)), 5, 6);
        int ten = check.empty(0, 5, 5, 5, 5, 5, 5, 5, 5, 5, 5);
        check.hasType("of ten PLACES", check.make(5, 0, check.type(0, 5), 0, ten, 0, 0, 0, 0, 0, 0, 0, 0, 0, 0), 0, 5);
    }

    private static void moveCalls() {
        check.sentence("of the same kind: h is called with those.");
        int digits = digits();
        int type = check.type(5, 5, 5, 5, 5);
        check.comes("another order", check.make(5, 0, type, 0, digits, 3, 0, 2), 413, 1, 2, 3, 4);
        check.comes("one for all", check.make(5, 0, type, 0, digits, 1, 1, 1), 222, 1, 2, 3, 4);
        int row = check.row(15, 3);
        int turned = check.make(5, 0, check.type(0, 5, 5, 15), 0, check.make(23, 15, 0, 0), 2, 1, 0);
        check.comes("of RESULT V", turned, 0, 70, 2, row);
        check.due("so it was set", check.house.element(row, 2, 0), 70);
        check.comes("of RESULT Z", check.make(5, 0, check.type(1, 5, 5), 0, check.make(3, 11, 5, 0), 1, 0), 1, 7, 6);
        check.comes("of RESULT Z", check.make(5, 0, check.type(1, 5, 5), 0, check.make(3, 11, 5, 0), 1, 0), 0, 6, 7);
    }

    private static void bind() {
        HandleHouse house = check.sentence("6 BIND h: its PLACE a goes, for which it is called with what CONSTANT of that kind and c has.");
        int digits = digits();
        check.hasType("BIND", check.make(6, 1, 0, 7, digits), 5, 5, 5);
        check.comes("PLACE 0", check.make(6, 0, 0, 7, digits), 712, 1, 2);
        check.comes("PLACE 1", check.make(6, 1, 0, 7, digits), 172, 1, 2);
        check.comes("PLACE 2", check.make(6, 2, 0, 7, digits), 127, 1, 2);
        check.refused("PLACE 3", 2, 6, 3, 0, 7, digits);
        check.refused("PLACE -1", 2, 6, -1, 0, 7, digits);
        check.refused("PLACE 0 of none", 2, 6, 0, 0, 7, check.constant(5, 1));
        check.refused("a number beyond I", 2, 6, 0, 0, 1L << 31, digits);
        check.refused("a number below I", 2, 6, 0, 0, -(1L << 31) - 1, digits);
        int size = check.make(21, 15, 0, 0);
        check.fails("-1 is NULL of a REFERENCE", check.make(6, 0, 0, -1, size), 1);
        check.refused("no VALUE", 1, 6, 0, 0, 0, size);
        check.refused("VALUE -2", 1, 6, 0, 0, -2, size);
        int row = check.row(15, 9);
        int other = check.row(16, 9);
        check.comes("a VALUE", check.make(6, 0, 0, row, size), 9);
        check.due("STEPS", house.told(1), 2);
        check.refused("a VALUE of another kind", 3, 6, 0, 0, other, size);
        int box = check.box(5, 77);
        check.comesTo("a VALUE of O", 13, 77, check.make(6, 0, 0, box, check.self(7)));
        check.comesTo("another at the same PLACE", 16, 9, check.make(6, 0, 0, other, check.self(7)));
        int second = check.make(4, 0, check.type(0, 7), 0, check.self(7));
        check.comesTo("a VALUE at PLACE 1", 13, 77, check.make(6, 1, 0, box, second), row);
        check.comesTo("NULL at PLACE 1", 0, 0, check.make(6, 1, 0, -1, second), row);
        check.comes("SAME", check.make(6, 1, 0, row, check.make(32, 0, 0, 0)), 1, row);
        check.comes("not SAME", check.make(6, 1, 0, row, check.make(32, 0, 0, 0)), 0, other);
    }

    private static void collect() {
        check.sentence("7 COLLECT h, f at a: f's RESULT is h's PLACE a, in whose stead f's PLACES stand;");
        int digits = digits();
        int size = check.make(22, 15, 0, 0);
        check.hasType("at 0", check.make(7, 0, 0, 0, digits, size), 5, 15, 5, 5, 5);
        check.hasType("at 2", check.make(7, 2, 0, 0, digits, size), 5, 5, 5, 15, 5);
        check.refused("at 3", 2, 7, 3, 0, 0, digits, size);
        check.refused("at -1", 2, 7, -1, 0, 0, digits, size);
        check.refused("a RESULT of another kind", 3, 7, 0, 0, 0, digits, check.make(22, 16, 0, 0));
        check.hasType("f of no PLACES", check.make(7, 1, 0, 0, digits, check.constant(5, 1)), 5, 5, 5);
        int eight = check.empty(5, 1, 1, 1, 1, 1, 1, 1, 1);
        int nine = check.empty(5, 1, 1, 1, 1, 1, 1, 1, 1, 1);
        check.hasType("to ten PLACES", check.make(7, 0, 0, 0, digits, eight), 5, 1, 1, 1, 1, 1, 1, 1, 1, 5, 5);
        check.refused("to eleven PLACES", 4, 7, 0, 0, 0, digits, nine);
        check.refused("with f alone", 1, 7, 0, 0, 0, digits);
        check.refused("with three", 1, 7, 0, 0, 0, digits, size, size);
    }

    private static void collectOfV() {
        check.sentence("or V: f's PLACES come at a (0 .. how many h has). f is called");
        int less = check.make(3, 11, 5, 0);
        int set = check.make(23, 16, 0, 0);
        check.hasType("at 0", check.make(7, 0, 0, 0, less, set), 1, 16, 5, 6, 5, 5);
        check.hasType("at 1", check.make(7, 1, 0, 0, less, set), 1, 5, 16, 5, 6, 5);
        check.hasType("at 2", check.make(7, 2, 0, 0, less, set), 1, 5, 5, 16, 5, 6);
        check.refused("at 3", 2, 7, 3, 0, 0, less, set);
        check.refused("at -1", 2, 7, -1, 0, 0, less, set);
    }

    private static void collectCalls() {
        HandleHouse house = check.sentence("f is called with these, then h, with its RESULT.");
        int digits = digits();
        int minus = check.make(3, 1, 5, 0);
        check.comes("at 0", check.make(7, 0, 0, 0, digits, minus), 512, 8, 3, 1, 2);
        check.comes("at 1", check.make(7, 1, 0, 0, digits, minus), 152, 1, 8, 3, 2);
        check.comes("at 2", check.make(7, 2, 0, 0, digits, minus), 125, 1, 2, 8, 3);
        int row = check.row(15, 1);
        int log = log(row);
        check.run(check.make(7, 1, 0, 0, log, log), 99, 2, 1);
        check.due("f, then h", house.element(row, 0, 0), 12);
        check.fails("h isn't called when f THROWS", check.make(7, 0, 0, 0, log, check.make(3, 3, 5, 0)), 3, 4, 0);
        check.due("it wasn't", house.element(row, 0, 0), 12);
    }

    private static void fold() {
        check.sentence("8 FOLD h, f at a: f's RESULT is h's PLACE a, f's PLACES are first ones of h's behind that; it goes;");
        int h = check.empty(0, 5, 6, 7, 6);
        check.hasType("at 0", check.make(8, 0, 0, 0, h, check.empty(5, 6, 7)), 0, 6, 7, 6);
        check.hasType("at 1, all behind", check.make(8, 1, 0, 0, h, check.empty(6, 7, 6)), 0, 5, 7, 6);
        check.hasType("at 3, none behind", check.make(8, 3, 0, 0, h, check.empty(6)), 0, 5, 6, 7);
        check.refused("at 4", 2, 8, 4, 0, 0, h, check.empty(6));
        check.refused("at -1", 2, 8, -1, 0, 0, h, check.empty(6));
        check.refused("a RESULT of another kind", 3, 8, 0, 0, 0, h, check.empty(6));
        check.refused("PLACES not from there on", 3, 8, 0, 0, 0, h, check.empty(5, 7));
        check.refused("a PLACE too many", 3, 8, 1, 0, 0, h, check.empty(6, 7, 6, 6));
        check.refused("a PLACE where none is", 3, 8, 3, 0, 0, h, check.empty(6, 6));
        int ten = check.empty(0, 5, 5, 5, 5, 5, 5, 5, 5, 5, 5);
        int five = check.empty(5, 5, 5, 5, 5, 5);
        check.hasType("all five behind the fifth of ten", check.make(8, 4, 0, 0, ten, five), 0, 5, 5, 5, 5, 5, 5, 5, 5, 5);
        check.refused("five behind the sixth of ten", 3, 8, 5, 0, 0, ten, five);
    }

    private static void foldOfV() {
        check.sentence("or V: f's PLACES are first ones of h's from a on (a 0 .. how many), none goes.");
        int h = check.empty(5, 5, 6, 7);
        check.hasType("at 0", check.make(8, 0, 0, 0, h, check.empty(0, 5, 6)), 5, 5, 6, 7);
        check.hasType("at 1", check.make(8, 1, 0, 0, h, check.empty(0, 6)), 5, 5, 6, 7);
        check.hasType("at 3", check.make(8, 3, 0, 0, h, check.empty(0)), 5, 5, 6, 7);
        check.refused("at 4", 2, 8, 4, 0, 0, h, check.empty(0));
        check.refused("at -1", 2, 8, -1, 0, 0, h, check.empty(0));
        check.refused("a PLACE at 3", 3, 8, 3, 0, 0, h, check.empty(0, 7));
        check.refused("not from there on", 3, 8, 1, 0, 0, h, check.empty(0, 5));
        check.refused("one too many", 3, 8, 0, 0, 0, h, check.empty(0, 5, 6, 7, 5));
    }

    private static void foldCalls() {
        HandleHouse house = check.sentence("f is called with these, then h with all, and f's RESULT at a.");
        int digits = digits();
        int minus = check.make(3, 1, 5, 0);
        int inc = check.make(6, 1, 0, 1, check.make(3, 0, 5, 0));
        check.comes("at 0", check.make(8, 0, 0, 0, digits, minus), 583, 8, 3);
        check.comes("at 1", check.make(8, 1, 0, 0, digits, inc), 898, 8, 8);
        check.comes("at 2", check.make(8, 2, 0, 0, digits, check.constant(5, 7)), 127, 1, 2);
        int row = check.row(15, 1);
        int log = log(row);
        check.comes("of V: h with all", check.make(8, 1, 0, 0, minus, log), 3, 7, 4);
        check.due("f with those from a on", house.element(row, 0, 0), 4);
        check.run(check.make(8, 0, 0, 0, log, mark(log, 9)), 99, 6);
        check.due("f, then h", house.element(row, 0, 0), 496);
    }

    private static void result() {
        HandleHouse house = check.sentence("9 RESULT h, f: f's PLACE is h's RESULT (none for V): h is called, then f with that.");
        int minus = check.make(3, 1, 5, 0);
        int row = check.row(15, 1);
        int log = log(row);
        check.hasType("RESULT", check.make(9, 0, 0, 0, minus, log), 0, 5, 5);
        check.run(check.make(9, 0, 0, 0, minus, log), 99, 8, 3);
        check.due("f with that", house.element(row, 0, 0), 5);
        check.run(check.make(9, 0, 0, 0, log, mark(log, 7)), 99, 2);
        check.due("of V: h, then f with none", house.element(row, 0, 0), 527);
        check.refused("f without a PLACE", 3, 9, 0, 0, 0, minus, check.constant(5, 1));
        check.refused("f with two PLACES", 3, 9, 0, 0, 0, minus, minus);
        check.refused("f with a PLACE of another kind", 3, 9, 0, 0, 0, minus, check.self(6));
        check.refused("of V with a PLACE", 3, 9, 0, 0, 0, log, log);
    }

    private static void spreadForms() {
        check.sentence("10 SPREAD h: the last b PLACES are of a ROW's kind a's ELEMENTS; one PLACE of a in their stead:");
        int digits = digits();
        check.hasType("0", check.make(10, 15, 0, 0, digits), 5, 5, 5, 5, 15);
        check.hasType("1", check.make(10, 15, 1, 0, digits), 5, 5, 5, 15);
        check.hasType("all 3", check.make(10, 15, 3, 0, digits), 5, 15);
        check.refused("4", 2, 10, 15, 4, 0, digits);
        check.refused("-1", 2, 10, 15, -1, 0, digits);
        check.refused("of J", 3, 10, 16, 1, 0, digits);
        check.hasType("none of J", check.make(10, 16, 0, 0, digits), 5, 5, 5, 5, 16);
        check.refused("no ROW", 1, 10, 14, 1, 0, digits);
        check.refused("no ROW", 1, 10, 18, 1, 0, digits);
        check.refused("I is no ROW", 1, 10, 5, 0, 0, digits);
        int mixed = check.empty(0, 6, 5, 5);
        check.hasType("the last two", check.make(10, 15, 2, 0, mixed), 0, 6, 15);
        check.refused("the last three", 3, 10, 15, 3, 0, mixed);
        int ten = check.empty(0, 7, 7, 7, 7, 7, 7, 7, 7, 7, 7);
        check.hasType("ten of ten", check.make(10, 17, 10, 0, ten), 0, 17);
        check.hasType("one of ten", check.make(10, 17, 1, 0, ten), 0, 7, 7, 7, 7, 7, 7, 7, 7, 7, 17);
        check.refused("none of ten: eleven PLACES", 4, 10, 17, 0, 0, ten);
    }

    private static void spreadCalls() {
        check.sentence("NULL: ERROR 1, but not when b is 0; another size: ERROR 7; h is called with its ELEMENTS.");
        int digits = digits();
        int two = check.make(10, 15, 2, 0, digits);
        int none = check.make(10, 15, 0, 0, digits);
        int row = check.row(15, 2);
        check.run(check.make(23, 15, 0, 0), 9, row, 0, 4);
        check.run(check.make(23, 15, 0, 0), 9, row, 1, 6);
        check.comes("its ELEMENTS", two, 146, 1, row);
        check.fails("NULL", two, 1, 1, -1);
        check.fails("a size too small", two, 7, 1, check.row(15, 1));
        check.fails("a size too large", two, 7, 1, check.row(15, 3));
        check.fails("a size of 0", two, 7, 1, check.row(15, 0));
        check.comes("NULL when b is 0", none, 123, 1, 2, 3, -1);
        check.comes("a size of 0 when b is 0", none, 123, 1, 2, 3, check.row(15, 0));
        check.fails("another size when b is 0", none, 7, 1, 2, 3, row);
        check.due("an ERROR ahead of the call", check.house.told(1), 1);
    }

    private static void gatherForms() {
        HandleHouse house = check.sentence("11 GATHER h: the last PLACE is a ROW; b PLACES of its ELEMENTS' kind in its stead: h is called"
            + " with a new ROW of them.");
        int self = check.self(16);
        check.hasType("0", check.make(11, 0, 0, 0, self), 16);
        check.hasType("10", check.make(11, 0, 10, 0, self), 16, 6, 6, 6, 6, 6, 6, 6, 6, 6, 6);
        check.refused("11", 2, 11, 0, 11, 0, self);
        check.refused("-1", 2, 11, 0, -1, 0, self);
        int behind = check.empty(5, 5, 17);
        check.hasType("9 behind one", check.make(11, 0, 9, 0, behind), 5, 5, 7, 7, 7, 7, 7, 7, 7, 7, 7);
        check.refused("10 behind one: eleven PLACES", 4, 11, 0, 10, 0, behind);
        check.refused("the last is no ROW", 3, 11, 0, 1, 0, check.make(22, 15, 0, 0));
        check.refused("no PLACE", 3, 11, 0, 0, 0, check.constant(5, 1));
        for (int kind : new int[] {6, 7, 8, 14, 18, 19}) {
            check.refused("the last is of kind " + kind, 3, 11, 0, 1, 0, check.empty(5, 15, kind));
        }
        int third = check.make(4, 3, check.type(0, 15), 0, digits());
        check.comes("one of them behind three", check.make(11, 0, 1, 0, third), 357, 3, 5, 7, 0);
        check.comes("none of them behind three", check.make(11, 0, 0, 0, third), 468, 4, 6, 8);
        house = check.again();
        self = check.self(16);
        check.comesTo("a ROW of none", 16, 0, check.make(11, 0, 0, 0, self));
        int h = check.make(11, 0, 2, 0, self);
        int row = check.kept(h, 5, MIN);
        check.due("ELEMENT 0", house.element(row, 0, 0), 5);
        check.due("ELEMENT 1", house.element(row, 1, 0), MIN);
        check.comes("a new one each time", check.make(32, 0, 0, 0), 0, row, check.kept(h, 5, MIN));
        check.due("each counts", house.told(4), 3);
        int objects = check.kept(check.make(11, 0, 3, 0, check.self(17)), row, -1, check.box(4, 7));
        elementsAre("of OBJECTS", objects, new long[] {2, 0, 7}, new long[] {16, 0, 12});
        int size = check.make(4, 0, check.type(0, 5, 5), 0, check.make(21, 16, 0, 0));
        int ahead = check.make(5, 0, check.type(5, 5, 5, 16), 0, check.make(9, 0, 0, 0, size, check.self(5)), 0, 1, 2);
        int second = check.make(4, 2, check.type(0, 16), 0, check.make(3, 1, 5, 0));
        check.comes("values ahead of them", check.make(11, 0, 2, 0, second), 4, 9, 5, 1, 2);
        check.comes("others ahead of them", check.make(11, 0, 2, 0, second), 40, 90, 50, 1, 2);
        check.comes("none of them", check.make(11, 0, 0, 0, ahead), 0, 90, 50);
    }

    private static void asForms() {
        check.sentence("12 AS h, TYPE b, with as many PLACES, each of which MAY be passed as h's, as h's RESULT as b's:");
        int less = check.make(3, 11, 5, 0);
        check.hasType("AS", check.make(12, 0, check.type(7, 2, 13), 0, less), 7, 2, 13);
        check.refused("a PLACE fewer", 3, 12, 0, check.type(1, 5), 0, less);
        check.refused("a PLACE more", 3, 12, 0, check.type(1, 5, 5, 5), 0, less);
        check.refused("the first MAY not", 3, 12, 0, check.type(1, 6, 5), 0, less);
        check.refused("the last MAY not", 3, 12, 0, check.type(1, 5, 6), 0, less);
        check.refused("the RESULT MAY not", 3, 12, 0, check.type(5, 5, 5), 0, less);
        check.refused("h's PLACES aren't passed as b's", 3, 12, 0, check.type(1, 14, 5), 0, less);
        check.hasType("a RESULT to V", check.make(12, 0, check.type(0, 5, 5), 0, less), 0, 5, 5);
        check.hasType("V to a RESULT", check.make(12, 0, check.type(5), 0, check.empty(0)), 5);
        check.refused("no such TYPE", 1, 12, 0, -1, 0, less);
    }

    private static void asCalls() {
        HandleHouse house = check.sentence("values are passed from the left, h is called, the RESULT is passed.");
        int minus = check.make(3, 1, 5, 0);
        int both = check.make(12, 0, check.type(7, 7, 7), 0, minus);
        int box = check.box(5, 9);
        int wide = check.box(6, 9);
        check.comesTo("passed", 13, 6, both, box, check.box(2, 3));
        check.due("STEPS", house.told(1), 2);
        check.fails("the first's ERROR", both, 1, -1, wide);
        check.fails("the first's ERROR", both, 2, wide, -1);
        check.due("h isn't called", house.told(1), 1);
        check.fails("the second's ERROR", both, 1, box, -1);
        int down = check.resultAs(12, 7, 15);
        check.fails("the RESULT's ERROR", down, 2, box);
        check.due("h was called", house.told(1), 2);
    }

    private static void forced() {
        check.sentence("13 FORCED: likewise by forcing.");
        int minus = check.make(3, 1, 5, 0);
        int h = check.make(13, 0, check.type(2, 6, 8), 0, minus);
        check.hasType("FORCED", h, 2, 6, 8);
        check.comes("by forcing", h, -128, (1L << 32) + 128, -1);
        check.comes("a box", h, 127, (1L << 32) + 128, check.box(6, (1L << 33) + 1));
        check.refused("from H", 3, 13, 0, check.type(5, 18, 5), 0, minus);
        check.refused("to another box", 3, 13, 0, check.type(14, 5, 5), 0, minus);
        check.refused("a PLACE fewer", 3, 13, 0, check.type(5, 5), 0, minus);
        check.refused("no such TYPE", 1, 13, 0, 99, 0, minus);
        check.hasType("to V", check.make(13, 0, check.type(0, 5, 5), 0, minus), 0, 5, 5);
    }

    private static void guard() {
        HandleHouse house = check.sentence("14 GUARD h, f, g: f and g are of one TYPE, h's PLACES are first PLACES of it, its RESULT Z: h is"
            + " called, then f if it came to 1, else g.");
        int minus = check.make(3, 1, 5, 0);
        int plus = check.make(3, 0, 5, 0);
        int less = check.make(3, 11, 5, 0);
        int h = check.make(14, 0, 0, 0, less, plus, minus);
        check.hasType("GUARD", h, 5, 5, 5);
        check.comes("1", h, 7, 3, 4);
        check.comes("0", h, 1, 4, 3);
        check.due("STEPS", house.told(1), 3);
        check.comes("of no PLACES", check.make(14, 0, 0, 0, check.constant(1, 0), plus, minus), 20, 50, 30);
        check.comes("of no PLACES", check.make(14, 0, 0, 0, check.constant(1, 1), plus, minus), 800, 500, 300);
        check.comes("of PLACE 0", check.make(14, 0, 0, 0, check.self(1), check.empty(1, 1), check.self(1)), 0, 1);
        check.refused("two TYPES by a PLACE", 3, 14, 0, 0, 0, less, plus, check.self(5));
        check.refused("two TYPES by the RESULT", 3, 14, 0, 0, 0, less, plus, less);
        check.refused("RESULT I", 3, 14, 0, 0, 0, plus, plus, minus);
        check.refused("RESULT V", 3, 14, 0, 0, 0, check.empty(0), plus, minus);
        check.refused("other PLACES", 3, 14, 0, 0, 0, check.empty(1, 6), plus, minus);
        check.refused("a PLACE more", 3, 14, 0, 0, 0, check.empty(1, 5, 5, 5), plus, minus);
        check.refused("two PARTS", 1, 14, 0, 0, 0, less, plus);
        check.refused("four PARTS", 1, 14, 0, 0, 0, less, plus, minus, minus);
    }

    private static void catchForms() {
        HandleHouse house = check.sentence("15 CATCH h, f, kind a, BELOW E: f has PLACE a and first PLACES of h, and h's RESULT.");
        house.newClass(7, 0);
        house.newClass(19, 0);
        int get = check.make(22, 16, 0, 0);
        check.hasType("no PLACE of h", check.make(15, 19, 0, 0, get, check.empty(6, 19)), 6, 16, 5);
        check.hasType("one", check.make(15, 19, 0, 0, get, check.empty(6, 19, 16)), 6, 16, 5);
        check.hasType("all", check.make(15, 19, 0, 0, get, check.empty(6, 19, 16, 5)), 6, 16, 5);
        check.refused("one more", 3, 15, 19, 0, 0, get, check.empty(6, 19, 16, 5, 5));
        check.refused("another one", 3, 15, 19, 0, 0, get, check.empty(6, 19, 5));
        check.refused("without a", 3, 15, 19, 0, 0, get, check.empty(6));
        check.refused("with O for a", 3, 15, 19, 0, 0, get, check.empty(6, 7));
        check.refused("another RESULT", 3, 15, 19, 0, 0, get, check.empty(5, 19));
        check.hasType("a CLASS BELOW E", check.make(15, 21, 0, 0, get, check.empty(6, 21)), 6, 16, 5);
        for (int kind : new int[] {-1, 0, 7, 18, 20, 22, 32}) {
            check.refused("kind " + kind, 1, 15, kind, 0, 0, get, check.empty(6, 19));
        }
    }

    private static void catchCalls() {
        HandleHouse house = check.sentence("h is called; if it THROWS a value of a, f is called with that, and its values.");
        house.newClass(19, 0);
        house.newClass(20, 0);
        int thrower = check.make(19, 19, 19, 0);
        int upper = check.instance(20);
        int lower = check.instance(21);
        int caught = check.make(15, 20, 0, 0, thrower, check.make(12, 0, check.type(19, 20), 0, check.self(20)));
        check.comesTo("of a", 20, 0, caught, upper);
        check.comesTo("BELOW a", 21, 0, caught, lower);
        int error = check.kept(check.make(3, 3, 5, 0), 1, 0);
        check.fails("not of a", caught, 3, error);
        check.fails("an ERROR of CODE 1", caught, 1, -1);
        int digits = digits();
        int divide = check.make(3, 3, 5, 0);
        int code = check.make(7, 0, 0, 0, digits, check.make(33, 0, 0, 0));
        int h = check.make(15, 19, 0, 0, divide, code);
        check.comes("with that, and its values", h, 390, 9, 0);
        check.comes("none THROWN", h, 4, 9, 2);
        check.comesTo("an OBJECT of E that is the RESULT", 19, 3, check.make(15, 19, 0, 0, check.self(19), check.empty(19, 19)), error);
        int wide = check.make(4, 2, check.type(0, 5), 0, divide);
        int third = check.make(5, 0, check.type(5, 19, 5, 5, 5), 0, check.self(5), 3);
        check.comes("all its values", check.make(15, 19, 0, 0, wide, third), 77, 9, 0, 77);
        check.comes("all its values", check.make(15, 19, 0, 0, wide, third), 78, 9, 0, 78);
        check.fails("f THROWS", check.make(15, 19, 0, 0, divide, check.make(19, 5, 19, 0)), 3, 9, 0);
        check.again();
        check.due("TYPE 0", check.type(1, 19, 5, 5), 0);
        int less = check.make(4, 0, check.type(0, 19), 0, check.make(3, 11, 5, 0));
        int tested = check.make(15, 19, 0, 0, check.make(7, 0, 0, 0, check.make(3, 12, 5, 0), check.make(3, 3, 5, 0)),
            check.make(5, 0, 0, 0, less, 0, 1, 2));
        check.comes("of RESULT Z, with its values", tested, 1, -4, 0, 9);
        check.comes("other values", tested, 0, 4, 0, 9);
        int row = check.row(15, 3);
        int set = check.make(6, 0, 0, row, check.make(23, 15, 0, 0));
        int ofV = check.make(15, 19, 0, 0, check.make(9, 0, 0, 0, check.make(3, 3, 5, 0), check.empty(0, 5)), check.make(4, 0, check.type(0, 19), 0, set));
        check.comes("of RESULT V", ofV, 0, 2, 0);
        check.comes("that THROWS", check.make(7, 1, 0, 0, ofV, check.make(6, 0, 0, 0, check.make(3, 2, 5, 0))), 0, 1, 7);
        check.fails("no such ELEMENT", ofV, 6, 9, 0);
    }

    private static void finallyForms() {
        check.sentence("16 FINALLY h, f: f has PLACE E, one of h's RESULT (not of V), first PLACES of h, and h's RESULT.");
        int get = check.make(22, 16, 0, 0);
        check.hasType("no PLACE of h", check.make(16, 0, 0, 0, get, check.empty(6, 19, 6)), 6, 16, 5);
        check.hasType("all", check.make(16, 0, 0, 0, get, check.empty(6, 19, 6, 16, 5)), 6, 16, 5);
        check.refused("one more", 3, 16, 0, 0, 0, get, check.empty(6, 19, 6, 16, 5, 5));
        check.refused("another one", 3, 16, 0, 0, 0, get, check.empty(6, 19, 6, 5));
        check.refused("without the RESULT's PLACE", 3, 16, 0, 0, 0, get, check.empty(6, 19));
        check.refused("another kind there", 3, 16, 0, 0, 0, get, check.empty(6, 19, 16, 5));
        check.refused("I there", 3, 16, 0, 0, 0, get, check.empty(6, 19, 5));
        check.refused("O there", 3, 16, 0, 0, 0, get, check.empty(6, 19, 7));
        check.refused("without E", 3, 16, 0, 0, 0, get, check.empty(6, 6, 16));
        check.refused("no PLACES", 3, 16, 0, 0, 0, get, check.empty(6));
        check.refused("another RESULT", 3, 16, 0, 0, 0, get, check.empty(0, 19, 6));
        int set = check.make(23, 15, 0, 0);
        check.hasType("of V", check.make(16, 0, 0, 0, set, check.empty(0, 19)), 0, 15, 5, 5);
        check.hasType("of V with all", check.make(16, 0, 0, 0, set, check.empty(0, 19, 15, 5, 5)), 0, 15, 5, 5);
        check.refused("of V with a PLACE that h hasn't", 3, 16, 0, 0, 0, set, check.empty(0, 19, 5));
        check.refused("of V without E", 3, 16, 0, 0, 0, set, check.empty(0));
    }

    private static void finallyCalls() {
        HandleHouse house = check.sentence("h is called, then f with NULL, its RESULT and its values; or, if it THROWS, with what it threw, the"
            + " ZERO and its values, and that is thrown behind f.");
        int row = check.row(17, 4);
        int told = def("told", "i ((r xo) (e e) (a i) (b i) (c i)) (do (set r 0 e) (do (set r 1 a) (do (set r 2 b) (do (set r 3 c) 77))))");
        int last = check.make(6, 0, 0, row, told);
        int h = check.make(16, 0, 0, 0, check.make(3, 3, 5, 0), last);
        check.comes("what f came to", h, 77, 9, 2);
        elementsAre("behind a RESULT", row, new long[] {0, 4, 9, 2}, new long[] {0, 13, 13, 13});
        check.fails("that is thrown behind f", h, 3, 8, 0);
        elementsAre("behind what was thrown", row, new long[] {3, 0, 8, 0}, new long[] {19, 13, 13, 13});
        int throwing = check.make(16, 0, 0, 0, check.make(3, 3, 5, 0), check.make(4, 1, check.type(0, 5), 0, check.make(19, 5, 19, 0)));
        check.fails("f THROWS itself", throwing, 1, 9, 2);
        house.newClass(19, 0);
        int thrower = check.make(19, 0, 20, 0);
        int logged = check.row(15, 1);
        int log = log(logged);
        int ofV = check.make(16, 0, 0, 0, thrower, check.make(4, 0, check.type(0, 19), 0, mark(log, 4)));
        check.due("an INSTANCE", check.run(ofV, 99, check.instance(20)), 1);
        check.due("is thrown behind f", house.told(3), 20);
        check.due("f was called", house.element(logged, 0, 0), 4);
        int values = check.make(16, 0, 0, 0, check.empty(0, 5, 5), check.make(4, 0, check.type(0, 19), 0, log));
        check.due("of V", check.run(values, 99, 6, 8), 0);
        check.due("its first value", house.element(logged, 0, 0), 46);
        int nulls = check.make(16, 0, 0, 0, check.make(19, 7, 19, 0), check.make(9, 0, 0, 0, check.make(4, 0, check.type(0, 19), 0,
            check.make(6, 0, 0, row, check.make(6, 1, 0, 0, check.make(23, 17, 0, 0)))), check.constant(7, -1)));
        check.fails("of O", nulls, 1, -1);
        check.due("the ZERO is NULL", house.element(row, 0, 1), 0);
        check.comes("the same as NULL", check.make(25, 17, 0, 0), 1, row, 0, -1, -1);
        int given = check.make(16, 0, 0, 0, check.self(7), check.make(4, 0, check.type(0, 19), 0, check.self(7)));
        check.comesTo("an OBJECT as RESULT", 17, 4, given, row);
        check.comesTo("a BOX as RESULT", 13, 5, given, check.box(5, 5));
        check.comesTo("NULL as RESULT", 0, 0, given, -1);
    }

    /** The HANDLES next to those that are called have other PLACES and other RESULTS. */
    private static void finallyNeighbours() {
        check.sentence("with what it threw, the ZERO and its values, and that is thrown behind f.");
        int minus = check.make(3, 1, 5, 0);
        int row = check.row(15, 1);
        int f = check.make(4, 0, check.type(0, 19, 5), 0, check.make(3, 2, 5, 0));
        int none = check.empty(0);
        int own = check.make(5, 0, check.type(5, 5, 5), 0, check.make(3, 1, 5, 0), 1, 0);
        check.due("no PLACES behind h", check.make(6, 0, 0, row, check.make(21, 15, 0, 0)) > own, true);
        check.comes("f with its RESULT and its values", check.make(16, 0, 0, 0, minus, f), 42, 6, 7);
        check.comes("other values", check.make(16, 0, 0, 0, own, f), 72, 8, 9);
        check.due("V behind f", none > f, true);
        check.again();
        int times = check.make(3, 2, 5, 0);
        check.due("RESULT V, no PLACES", check.empty(0), times + 1);
        int first = check.make(4, 0, check.type(0, 19), 0, check.make(3, 1, 5, 0));
        check.comes("RESULT less the first value", check.make(16, 0, 0, 0, times, first), 35, 7, 6);
        check.comes("RESULT less another", check.make(16, 0, 0, 0, times, first), 30, 2, 16);
        check.again();
        check.due("TYPE 0", check.type(5, 19, 5, 5, 5), 0);
        int last = check.make(5, 0, 0, 0, check.make(3, 1, 5, 0), 3, 2);
        check.comes("the second less the first", check.make(16, 0, 0, 0, check.make(3, 0, 5, 0), last), 4, 5, 9);
        check.comes("the second less the first", check.make(16, 0, 0, 0, check.make(3, 0, 5, 0), last), 40, 50, 90);
    }

    /** (E I)I that does as a handle of no PLACES. */
    private static int finalized(int h) {
        return check.make(16, 0, 0, 0, check.make(3, 3, 5, 0), check.make(4, 0, check.type(0, 19, 5), 0, h));
    }

    private static void finallyThrowing() {
        HandleHouse house = check.sentence("What is thrown in a CALL that is within it, it THROWS, but where told.");
        int noSize = check.make(6, 0, 0, -1, check.make(21, 15, 0, 0));
        check.fails("f THROWS behind a RESULT", finalized(noSize), 1, 9, 2);
        check.fails("f THROWS behind what was thrown", finalized(noSize), 1, 9, 0);
        int seven = finalized(check.constant(5, 7));
        check.fails("what was thrown", seven, 3, 9, 0);
        check.due("STEPS", house.told(1), 4);
        check.due("f is OUT OF FUEL", check.run(seven, 2, 9, 0), 2);
        check.due("within f OUT OF FUEL", check.run(seven, 3, 9, 0), 2);
        check.due("no OBJECT", house.told(3), 0);
        int row = check.make(9, 0, 0, 0, check.make(6, 0, 0, 101, check.make(20, 15, 0, 0)), check.make(21, 15, 0, 0));
        check.due("f is FULL", check.run(finalized(row), 99, 9, 0), 4);
        int target = house.target(check.constant(5, 7));
        int again = check.make(29, target, 0, 0);
        house.aim(target, again);
        check.due("f is TOO DEEP", check.run(finalized(again), 999, 9, 0), 3);
    }

    private static void elementsAre(String what, int row, long[] numbers, long[] kinds) {
        for (int i = 0; i < numbers.length; i++) {
            check.due(what + ", value " + i, check.house.element(row, i, 0), numbers[i]);
            check.due(what + ", kind " + i, check.house.element(row, i, 1), kinds[i]);
        }
    }

    private static void switches() {
        HandleHouse house = check.sentence("17 SWITCH h, and others (perhaps none), all of one TYPE, whose PLACE 0 is I: the one behind h with"
            + " this number, from 0 on, is called, h if there is none.");
        int plus = check.make(3, 0, 5, 0);
        int minus = check.make(3, 1, 5, 0);
        int times = check.make(3, 2, 5, 0);
        int h = check.make(17, 0, 0, 0, plus, minus, times);
        check.hasType("SWITCH", h, 5, 5, 5);
        check.comes("0", h, -6, 0, 6);
        check.comes("1", h, 6, 1, 6);
        check.comes("2: h", h, 8, 2, 6);
        check.comes("-1: h", h, 5, -1, 6);
        check.comes("the greatest: h", h, Integer.MAX_VALUE, Integer.MAX_VALUE, 0);
        check.comes("the least: h", h, Integer.MIN_VALUE, Integer.MIN_VALUE, 0);
        check.due("STEPS", house.told(1), 2);
        check.comes("no others", check.make(17, 0, 0, 0, plus), 6, 0, 6);
        int or = check.make(3, 6, 5, 0);
        check.due("no PLACES behind it", check.constant(5, 1), or + 1);
        check.comes("the values of the one that is called", check.make(17, 0, 0, 0, or), 0x61, 1, 0x60);
        check.comes("other values", check.make(17, 0, 0, 0, plus, or), 0x70, 0, 0x70);
        int dropped = check.make(4, 0, check.type(0, 5, 5), 0, h);
        check.comes("within another CALL", dropped, 60, 0, 9, 1, 60);
        check.comes("within two others", check.make(4, 0, check.type(0, 5, 5), 0, dropped), -60, 1, 1, 9, 9, 0, 60);
        check.refused("no h", 1, 17, 0, 0, 0);
        check.refused("another TYPE", 3, 17, 0, 0, 0, plus, minus, check.self(5));
        check.refused("another RESULT", 3, 17, 0, 0, 0, plus, check.make(3, 11, 5, 0));
        check.refused("PLACE 0 of J", 3, 17, 0, 0, 0, check.make(3, 0, 6, 0));
        check.refused("PLACE 0 of J, PLACE 1 of I", 3, 17, 0, 0, 0, check.empty(5, 6, 5));
        check.hasType("PLACE 0 of I, PLACE 1 of J", check.make(17, 0, 0, 0, check.empty(5, 5, 6)), 5, 5, 6);
        check.hasType("PLACE 0 of I alone", check.make(17, 0, 0, 0, check.self(5)), 5, 5);
        check.refused("no PLACE", 3, 17, 0, 0, 0, check.constant(5, 1));
        check.refused("no such one", 1, 17, 0, 0, 0, plus, -1);
        int[] parts = new int[20];
        for (int i = 0; i < 20; i++) {
            parts[i] = i == 19 ? minus : plus;
        }
        int twenty = check.make(17, 0, 0, 0, parts);
        check.due("twenty PARTS", house.handle(twenty, 4), 20);
        check.comes("the 19th of the others", twenty, 12, 18, 6);
        check.comes("behind them", twenty, 25, 19, 6);
    }
}
