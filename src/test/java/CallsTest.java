/** Promises 6 and 18: what each form comes to or throws when it is called, and in how many steps. */
public final class CallsTest {
    private static final Check check = new Check("CallsTest");

    public static void main(String[] args) {
        operations();
        wideOperations();
        placeForms();
        givingForms();
        passing();
        passingReferences();
        forcing();
        branches();
        catching();
        finallies();
        loops();
        rows();
        rowsOfObjects();
        spreadAndGather();
        invoking();
        questions();
        check.end();
    }

    private static void steps(String what, int want) {
        check.due(what + ": steps", check.house.told(1), want);
    }

    private static void operations() {
        check.fresh("promise 18, OPERATION on I");
        long low = Integer.MIN_VALUE;
        long high = Integer.MAX_VALUE;
        long[][] rows = {
            {0, high, 1, low}, {1, low, 1, high}, {2, 65536, 65536, 0}, {2, high, high, 1},
            {3, 7, -2, -3}, {3, -7, 2, -3}, {3, low, -1, low}, {4, -7, 2, -1}, {4, 7, -2, 1}, {4, low, -1, 0},
            {5, 12, 10, 8}, {6, 12, 10, 14}, {7, 12, 10, 6}, {7, -1, 5, -6},
            {8, 1, 31, low}, {8, 1, 32, 1}, {8, 3, -1, low}, {9, low, 31, -1}, {9, -8, 33, -4},
            {10, -1, 28, 15}, {10, -1, 32, -1}, {10, low, 31, 1},
            {11, 1, 2, 1}, {11, 2, 2, 0}, {11, low, high, 1}, {12, 2, 2, 1}, {12, 2, 3, 0}};
        for (long[] row : rows) {
            int h = check.make(3, (int) row[0], 5, 0);
            check.comes("operation " + row[0] + " of " + row[1] + ", " + row[2], h, row[3], row[1], row[2]);
            check.due("the kind", check.house.told(2), row[0] > 10 ? 1 : 5);
        }
        check.fails("division by 0", check.make(3, 3, 5, 0), 3, 5, 0);
        check.fails("rest by 0", check.make(3, 4, 5, 0), 3, 0, 0);
    }

    private static void wideOperations() {
        check.fresh("promise 18, OPERATION on J");
        long low = Long.MIN_VALUE;
        long high = Long.MAX_VALUE;
        long[][] rows = {
            {0, high, 1, low}, {1, low, 1, high}, {2, 1L << 32, 1L << 32, 0}, {3, low, -1, low}, {4, low, -1, 0},
            {3, -7, 2, -3}, {8, 1, 63, low}, {8, 1, 64, 1}, {8, 1, 33, 1L << 33}, {9, low, 63, -1},
            {10, -1, 60, 15}, {10, -1, 64, -1}, {11, low, high, 1}, {12, 1L << 40, 1L << 40, 1}, {12, 1L << 32, 0, 0}};
        for (long[] row : rows) {
            int h = check.make(3, (int) row[0], 6, 0);
            check.comes("operation " + row[0] + " of " + row[1] + ", " + row[2], h, row[3], row[1], row[2]);
        }
        check.fails("division by 0", check.make(3, 3, 6, 0), 3, 5, 0);
    }

    private static void placeForms() {
        check.fresh("promise 18, DROP, MOVE, BIND");
        int minus = check.make(3, 1, 5, 0);
        int jj = check.type(0, 6, 6);
        check.comes("SELF", check.make(2, 5, 0, 0), 9, 9);
        steps("SELF", 1);
        check.comes("CONSTANT", check.constant(6, 1L << 50), 1L << 50);
        check.comes("DROP at 0", check.make(4, 0, jj, 0, minus), 7, 1, 2, 10, 3);
        check.comes("DROP at 1", check.make(4, 1, jj, 0, minus), 7, 10, 1, 2, 3);
        check.comes("DROP at 2", check.make(4, 2, jj, 0, minus), 7, 10, 3, 1, 2);
        steps("DROP", 2);
        check.comes("MOVE, swapped", check.make(5, 0, check.house.handle(minus, 0), 0, minus, 1, 0), -7, 10, 3);
        check.comes("MOVE, doubled", check.make(5, 0, check.type(5, 6, 5), 0, minus, 1, 1), 0, 4, 10);
        steps("MOVE", 2);
        check.comes("BIND 0", check.make(6, 0, 0, 100, minus), 97, 3);
        check.comes("BIND 1", check.make(6, 1, 0, 100, minus), -97, 3);
        steps("BIND", 2);
        int same = check.make(32, 0, 0, 0);
        check.comes("BIND NULL", check.make(6, 1, 0, -1, same), 1, -1);
    }

    private static void givingForms() {
        check.fresh("promise 18, COLLECT, FOLD, RESULT");
        int minus = check.make(3, 1, 5, 0);
        int times = check.make(3, 2, 5, 0);
        check.comes("COLLECT at 0", check.make(7, 0, 0, 0, minus, times), 3 * 4 - 5, 3, 4, 5);
        check.comes("COLLECT at 1", check.make(7, 1, 0, 0, minus, times), 3 - 4 * 5, 3, 4, 5);
        steps("COLLECT", 3);
        int set = check.make(23, 15, 0, 0);
        int get = check.make(22, 15, 0, 0);
        int row = check.kept(check.make(20, 15, 0, 0), 3);
        check.comes("COLLECT of V", check.make(7, 1, 0, 0, get, set), 42, row, row, 1, 42, 1);
        check.comes("FOLD of V", check.make(8, 0, 0, 0, check.make(24, 15, 0, 0), set), 7, row, 1, 7);
        int ten = check.make(3, 0, 5, 0);
        int three = check.make(4, 1, check.type(0, 5), 0, check.make(4, 1, check.type(0, 5), 0, check.make(2, 5, 0, 0)));
        check.hasType("a handle of three", three, 5, 5, 5, 5);
        check.comes("FOLD by one that has the places behind", check.make(8, 0, 0, 0, three, ten), 30, 10, 20);
        steps("FOLD", 5);
        check.comes("FOLD in the middle", check.make(8, 1, 0, 0, minus, check.constant(5, 4)), 6, 10);
        check.comes("RESULT", check.make(9, 0, 0, 0, minus, check.make(6, 1, 0, 10, times)), 70, 10, 3);
        steps("RESULT", 4);
        check.comes("RESULT of V", check.make(9, 0, 0, 0, set, check.constant(6, 4)), 4, row, 0, 0);
        check.fails("what is thrown in f", check.make(7, 0, 0, 0, minus, check.make(3, 3, 5, 0)), 3, 1, 0, 1);
        steps("then h isn't called", 2);
    }

    private static int self(int kind) {
        return check.make(2, kind, 0, 0);
    }

    /** SELF of a kind, called as one that takes a kind and comes to another. */
    private static int as(int form, int kind, int from, int to) {
        return check.make(form, 0, check.type(to, from), 0, self(kind));
    }

    private static void passing() {
        HandleHouse house = check.fresh("promise 18, AS");
        check.comes("B as J", as(12, 6, 2, 6), -5, -5);
        steps("AS", 2);
        check.comes("C as I", as(12, 5, 4, 5), 65535, 65535);
        check.comes("I as its box", as(12, 5, 5, 13), 6, 6);
        check.due("the kind of the type", house.told(2), 13);
        check.due("the kind of the object", house.told(3), 13);
        check.comes("Z as O", as(12, 1, 1, 7), 1, 1);
        check.due("a box of Z", house.told(3), 9);
        check.comes("I as V", as(12, 5, 5, 0), 0, 6);
        check.due("V", house.told(2), 0);
        check.due("no object", house.told(3), 0);
        int none = check.make(34, 0, check.type(0), 0);
        check.comes("V as J", check.make(12, 0, check.type(6), 0, none), 0);
        check.due("of J", house.told(2), 6);
        check.comes("V as O", check.make(12, 0, check.type(7), 0, none), 0);
        check.due("NULL", house.told(3), 0);
        check.due("NULL isn't kept", house.keep(), -1);
    }

    private static void passingReferences() {
        check.fresh("promise 18, AS of references");
        int boxB = check.kept(as(12, 2, 2, 7), -7);
        int boxJ = check.kept(as(12, 6, 6, 7), 8);
        int boxC = check.kept(as(12, 4, 4, 7), 65);
        int row = check.kept(check.make(20, 16, 0, 0), 1);
        check.comes("a box of B as I", as(12, 5, 7, 5), -7, boxB);
        check.comes("a box of B as B", as(12, 2, 8, 2), -7, boxB);
        check.fails("a box of J as I", as(12, 5, 7, 5), 2, boxJ);
        check.fails("a box of B as C", as(12, 4, 7, 4), 2, boxB);
        check.comes("a box of C as J", as(12, 6, 7, 6), 65, boxC);
        check.fails("NULL as I", as(12, 5, 7, 5), 1, -1);
        steps("h isn't called", 1);
        check.fails("a row as I", as(12, 5, 7, 5), 2, row);
        check.comes("a row as O", as(12, 16, 16, 7), 1, row);
        check.fails("a row as another row", as(12, 7, 7, 15), 2, row);
        steps("h was called", 2);
        check.comes("NULL as another row", as(12, 16, 15, 16), 0, -1);
        check.fails("an object of no such kind", as(12, 13, 7, 7), 2, boxJ);
        check.comes("a box as N", as(12, 7, 7, 8), 8, boxJ);
        check.fails("a box of C as N", as(12, 7, 7, 8), 2, boxC);
        int plus = check.make(3, 0, 5, 0);
        int fromLeft = check.make(12, 0, check.type(5, 7, 7), 0, plus);
        check.fails("from the left: NULL first", fromLeft, 1, -1, row);
        int boxI = check.kept(as(12, 5, 5, 7), 30);
        check.comes("both are passed", fromLeft, 23, boxI, boxB);
        check.comes("the other way round", fromLeft, 23, boxB, boxI);
        check.fails("from the left: a row first", fromLeft, 2, row, -1);
    }

    private static void forcing() {
        check.fresh("promise 18, FORCED");
        long[][] rows = {{1, 2, 0}, {1, 3, 1}, {1, -1, 1}, {2, 128, -128}, {2, 255, -1}, {3, 32768, -32768},
            {4, -1, 65535}, {4, 65536, 0}, {5, 1L << 32, 0}, {5, 1L << 31, Integer.MIN_VALUE}};
        for (long[] row : rows) {
            check.comes("J to " + row[0] + " of " + row[1], as(13, (int) row[0], 6, (int) row[0]), row[2], row[1]);
        }
        check.comes("B to J", as(13, 6, 2, 6), -1, -1);
        check.comes("NULL to I", as(13, 5, 7, 5), 0, -1);
        int boxJ = check.kept(as(12, 6, 6, 7), 257);
        int boxZ = check.kept(as(12, 1, 1, 7), 1);
        int row = check.kept(check.make(20, 15, 0, 0), 1);
        check.comes("a box of J to B", as(13, 2, 7, 2), 1, boxJ);
        check.comes("a box of Z to C", as(13, 4, 9, 4), 1, boxZ);
        check.fails("a row to I", as(13, 5, 7, 5), 2, row);
        check.comes("I as O", as(13, 5, 5, 7), 4, 4);
        check.due("a box of I", check.house.told(3), 13);
        check.fails("references as by AS", as(13, 7, 7, 18), 2, row);
    }

    private static void branches() {
        HandleHouse house = check.fresh("promise 18, GUARD, SWITCH, POINT");
        int plus = check.make(3, 0, 5, 0);
        int minus = check.make(3, 1, 5, 0);
        int times = check.make(3, 2, 5, 0);
        int less = check.make(3, 11, 5, 0);
        int guard = check.make(14, 0, 0, 0, less, plus, minus);
        check.comes("GUARD, 1", guard, 3, 1, 2);
        check.comes("GUARD, 0", guard, 0, 2, 2);
        steps("GUARD", 3);
        int one = check.make(14, 0, 0, 0, check.make(6, 0, 0, 5, less), plus, minus);
        check.comes("GUARD by the first place", one, 10 - 4, 6, 0);
        int chosen = check.make(17, 0, 0, 0, plus, minus, times);
        check.comes("SWITCH 0", chosen, -8, 0, 8);
        check.comes("SWITCH 1", chosen, 8, 1, 8);
        check.comes("SWITCH 2", chosen, 10, 2, 8);
        check.comes("SWITCH -1", chosen, 7, -1, 8);
        check.comes("SWITCH at the edge", chosen, Integer.MIN_VALUE, Integer.MAX_VALUE, 1);
        steps("SWITCH", 2);
        int point = house.point();
        int h = check.make(30, point, 0, 0, plus, minus);
        check.comes("POINT on", h, 9, 5, 4);
        house.off(point);
        check.comes("POINT off", h, 1, 5, 4);
        steps("POINT", 2);
    }

    private static void catching() {
        HandleHouse house = check.fresh("promise 18, THROW, CATCH");
        house.newClass(19, 0);
        house.newClass(20, 0);
        int divide = check.make(3, 3, 5, 0);
        int code = check.make(33, 0, 0, 0);
        int caught = check.make(15, 19, 0, 0, divide, code);
        check.comes("nothing thrown", caught, 4, 8, 2);
        steps("CATCH", 2);
        check.comes("caught", caught, 3, 8, 0);
        steps("CATCH of an error", 3);
        int second = check.make(4, 0, check.type(0, 19, 5), 0, check.make(2, 5, 0, 0));
        check.comes("with its values", check.make(15, 19, 0, 0, divide, check.make(5, 0, check.type(5, 19, 5, 5), 0, second, 0, 1, 2)), 0, 8, 0);
        int rethrow = check.make(19, 5, 19, 0);
        check.fails("thrown again", check.make(15, 19, 0, 0, divide, rethrow), 3, 8, 0);
        check.fails("THROW of NULL", rethrow, 1, -1);
        int narrow = check.make(15, 20, 0, 0, divide, check.make(34, 0, check.type(5, 20), 0));
        check.fails("not of the class", narrow, 3, 8, 0);
        check.run(divide, 9, 1, 0);
        int error = house.keep();
        check.due("an error kept", house.value(error, 0), 19);
        check.due("its code", house.value(error, 1), 3);
        check.fails("THROW of it", rethrow, 3, error);
        check.comes("CODE of it", code, 3, error);
        check.fails("CODE of NULL", code, 1, -1);
    }

    private static void finallies() {
        check.fresh("promise 18, FINALLY");
        int divide = check.make(3, 3, 5, 0);
        int same = check.make(32, 0, 0, 0);
        // (E I)I: 1 if E is NULL, else the code, both added to ten times the result
        int isNull = check.make(12, 0, check.type(1, 19), 0, check.make(6, 1, 0, -1, same));
        int ten = check.make(6, 1, 0, 10, check.make(3, 2, 5, 0));
        int came = check.make(4, 0, check.type(0, 19), 0, ten);
        int code = check.make(4, 1, check.type(0, 5), 0, check.make(33, 0, 0, 0));
        int last = check.make(14, 0, 0, 0, isNull, came, code);
        int h = check.make(16, 0, 0, 0, divide, last);
        check.comes("what f comes to", h, 40, 8, 2);
        check.fails("what h threw is thrown behind f", h, 3, 8, 0);
        steps("f was called", 8);
        int throwing = check.make(4, 1, check.type(0, 5), 0, check.make(19, 5, 19, 0));
        int other = check.make(16, 0, 0, 0, divide, throwing);
        check.fails("f throws itself", other, 1, 8, 2);
        int row = check.kept(check.make(20, 15, 0, 0), 2);
        int set = check.make(23, 15, 0, 0);
        int get = check.make(4, 0, check.type(0, 19), 0, check.make(12, 0, check.type(0, 15, 5, 5), 0, set));
        int ofV = check.make(16, 0, 0, 0, set, check.make(34, 0, check.type(0, 19, 15), 0));
        check.due("FINALLY of V", check.run(ofV, 99, row, 1, 6), 0);
        check.hasType("a handle to see", get, 0, 19, 15, 5, 5);
        check.comes("it was set", check.make(22, 15, 0, 0), 6, row, 1);
        check.fails("FINALLY of V that throws", ofV, 6, row, 2, 6);
    }

    private static void loops() {
        HandleHouse house = check.fresh("promise 18, LOOP");
        int plus = check.make(3, 0, 5, 0);
        int less = check.make(3, 11, 5, 0);
        int inc = check.make(6, 1, 0, 1, plus);
        int zero = check.constant(5, 0);
        int type = check.type(5, 5);
        int self = check.make(2, 5, 0, 0);
        int count = check.make(18, 0, type, 0, zero, inc, less, self);
        check.comes("counts to its value", count, 5, 5);
        steps("LOOP: INIT, five rounds of three, END", 1 + 1 + 5 * 3 + 1);
        check.comes("END of the first round", count, 1, -3);
        int noEnd = check.make(18, 0, type, 0, zero, inc, less, -1);
        check.comes("no END: the ZERO", noEnd, 0, 5);
        int noInit = check.make(18, 0, type, 0, -1, inc, less, self);
        check.comes("no INIT: from the ZERO on", noInit, 5, 5);
        int kept = check.make(18, 0, type, 0, check.make(6, 1, 0, 7, plus), -1, -1, -1, -1, -1, check.constant(1, 0), self);
        check.comes("no STEP: the VARIABLE stays", kept, 17, 10);
        // sum of 1 .. n: s, i; STEP of s is s + i, that of i is i + 1
        int sum = check.make(18, 0, type, 0, zero, plus, -1, -1, check.constant(5, 1),
            check.make(4, 0, check.type(0, 5), 0, inc), check.make(4, 0, check.type(0, 5), 0, less), self);
        check.comes("two VARIABLES", sum, 15, 6);
        int endless = check.make(18, 0, type, 0, zero, inc, check.constant(1, 1), self);
        check.due("without an end", check.run(endless, 10000, 1), 2);
        check.due("all its fuel", house.told(1), 10000);
        int row = check.kept(check.make(20, 15, 0, 0), 1);
        int bump = check.make(6, 0, 0, 0, check.make(6, 1, 0, 1, check.make(6, 0, 0, row, check.make(26, 15, 0, 0))));
        int bumpOfV = check.make(12, 0, check.type(0), 0, bump);
        int ofV = check.make(18, 0, type, 0, bumpOfV, bumpOfV, -1, -1, zero, inc, less, self);
        check.comes("INIT and STEP of V are called", ofV, 3, 3);
        check.due("so often", house.element(row, 0, 0), 4);
        int tested = check.make(18, 0, type, 0, bumpOfV, bumpOfV, less, self, check.constant(5, 10), inc, -1, -1);
        check.comes("a clause of V with a TEST has no VARIABLE", tested, 13, 13);
        check.due("so often", house.element(row, 0, 0), 9);
        int always = check.make(4, 0, type, 0, check.constant(1, 1));
        int divides = check.make(9, 0, 0, 0, check.make(6, 0, 0, 1, check.make(3, 3, 5, 0)), always);
        check.fails("what is thrown ends it", check.make(18, 0, type, 0, check.constant(5, -3), inc, divides, self), 3, 0);
        steps("LOOP: INIT, STEP of two, TEST of five or three", 1 + 1 + 3 * 2 + 2 * 5 + 3);
    }

    private static void rows() {
        HandleHouse house = check.fresh("promise 18, rows");
        int make = check.make(20, 15, 0, 0);
        int row = check.kept(make, 3);
        check.due("the kind", house.value(row, 0), 15);
        check.due("the size", house.value(row, 1), 3);
        check.fails("a size below 0", make, 4, -1);
        check.comes("no elements", make, 0, 0);
        check.comes("100 elements", make, 100, 100);
        check.due("101 elements", check.run(make, 9, 101), 4);
        int get = check.make(22, 15, 0, 0);
        int set = check.make(23, 15, 0, 0);
        check.comes("GET of the ZERO", get, 0, row, 2);
        check.comes("SET", set, 0, row, 2, 5);
        check.due("V", house.told(2), 0);
        check.comes("GET of that", get, 5, row, 2);
        check.comes("SWAP", check.make(24, 15, 0, 0), 5, row, 2, 6);
        check.comes("TRY of another", check.make(25, 15, 0, 0), 0, row, 2, 5, 9);
        check.comes("TRY of that", check.make(25, 15, 0, 0), 1, row, 2, 6, Integer.MAX_VALUE);
        check.comes("ADD", check.make(26, 15, 0, 0), Integer.MAX_VALUE, row, 2, 1);
        check.comes("it wraps", get, Integer.MIN_VALUE, row, 2);
        check.comes("SIZE", check.make(21, 15, 0, 0), 3, row);
        check.fails("SIZE of NULL", check.make(21, 15, 0, 0), 1, -1);
        check.fails("GET of NULL", get, 1, -1, 0);
        check.fails("GET -1", get, 6, row, -1);
        check.fails("GET 3", get, 6, row, 3);
        check.fails("SET 3", set, 6, row, 3, 0);
        check.fails("SWAP of NULL", check.make(24, 15, 0, 0), 1, -1, 0, 0);
        check.fails("TRY 3", check.make(25, 15, 0, 0), 6, row, 3, 0, 0);
        check.fails("ADD of NULL, ahead of its element", check.make(26, 15, 0, 0), 1, -1, 9, 0);
        int wide = check.kept(check.make(20, 16, 0, 0), 1);
        check.comes("ADD of J", check.make(26, 16, 0, 0), 0, wide, 0, Long.MAX_VALUE);
        check.comes("ADD of J again", check.make(26, 16, 0, 0), Long.MAX_VALUE, wide, 0, 1);
        check.comes("it wraps", check.make(22, 16, 0, 0), Long.MIN_VALUE, wide, 0);
    }

    private static void rowsOfObjects() {
        HandleHouse house = check.fresh("promise 18, rows of objects");
        int row = check.kept(check.make(20, 17, 0, 0), 2);
        int get = check.make(22, 17, 0, 0);
        check.comes("the ZERO", get, 0, row, 0);
        check.due("NULL", house.told(3), 0);
        int five = check.kept(as(12, 5, 5, 7), 5);
        int fiveAgain = check.kept(as(12, 5, 5, 7), 5);
        int wideFive = check.kept(as(12, 6, 6, 7), 5);
        check.comes("SET", check.make(23, 17, 0, 0), 0, row, 0, five);
        check.comes("TRY of a box of another kind", check.make(25, 17, 0, 0), 0, row, 0, wideFive, -1);
        check.comes("TRY of the same box", check.make(25, 17, 0, 0), 1, row, 0, fiveAgain, row);
        check.comes("a row within itself", get, 2, row, 0);
        check.due("its kind", house.told(3), 17);
        check.comes("SWAP with NULL", check.make(24, 17, 0, 0), 2, row, 0, -1);
        check.comes("NULL is there", get, 0, row, 0);
    }

    private static void spreadAndGather() {
        HandleHouse house = check.fresh("promise 18, SPREAD, GATHER");
        int minus = check.make(3, 1, 5, 0);
        int row = check.kept(check.make(20, 15, 0, 0), 2);
        check.run(check.make(23, 15, 0, 0), 9, row, 0, 30);
        check.run(check.make(23, 15, 0, 0), 9, row, 1, 12);
        int both = check.make(10, 15, 2, 0, minus);
        check.comes("SPREAD 2", both, 18, row);
        steps("SPREAD", 2);
        check.fails("SPREAD of NULL", both, 1, -1);
        int one = check.make(10, 15, 1, 0, minus);
        check.fails("SPREAD of another size", one, 7, 5, row);
        int none = check.make(10, 15, 0, 0, minus);
        check.comes("SPREAD 0 of NULL", none, 2, 5, 3, -1);
        check.fails("SPREAD 0 of a row of 2", none, 7, 5, 3, row);
        int empty = check.kept(check.make(20, 15, 0, 0), 0);
        check.comes("SPREAD 0 of a row of 0", none, 2, 5, 3, empty);
        int things = house.told(4);
        int self = check.make(2, 16, 0, 0);
        int gathered = check.kept(check.make(11, 0, 3, 0, self), 7, 8, 9);
        check.due("GATHER makes a row", house.told(4), things + 1);
        check.due("of J", house.value(gathered, 0), 16);
        check.due("element 0", house.element(gathered, 0, 0), 7);
        check.due("element 2", house.element(gathered, 2, 0), 9);
        check.comes("GATHER 0", check.make(11, 0, 0, 0, self), 0);
        int objects = check.kept(check.make(11, 0, 3, 0, check.make(2, 17, 0, 0)), gathered, -1, row);
        check.due("object 0", house.element(objects, 0, 1), 16);
        check.due("object 1", house.element(objects, 1, 1), 0);
        check.due("object 2", house.element(objects, 2, 1), 15);
        int second = check.make(4, 0, check.type(0, 7), 0, check.make(4, 1, check.type(0, 7), 0, check.make(2, 7, 0, 0)));
        check.comes("SPREAD of objects", check.make(10, 17, 3, 0, second), 0, objects);
        check.due("the second one", house.told(3), 0);
        int get = check.make(11, 0, 2, 0, check.make(5, 0, check.type(5, 5, 15), 0, check.make(22, 15, 0, 0), 1, 0));
        check.comes("behind another place", get, 22, 1, 11, 22);
    }

    private static void invoking() {
        HandleHouse house = check.fresh("promise 18, INVOKE, INVOKE AS, TARGET");
        int minus = check.make(3, 1, 5, 0);
        int object = check.kept(check.make(1, 0, 0, 0, minus));
        check.due("an object of H", house.value(object, 0), 18);
        check.due("its handle", house.value(object, 1), minus);
        int invoke = check.make(27, 0, house.handle(minus, 0), 0);
        check.comes("INVOKE", invoke, 7, object, 10, 3);
        steps("INVOKE", 2);
        check.fails("INVOKE of NULL", invoke, 1, -1, 10, 3);
        int wide = check.type(6, 7, 2);
        check.fails("INVOKE of another type", check.make(27, 0, wide, 0), 5, object, -1, 3);
        int as = check.make(28, 0, wide, 0);
        int ten = check.kept(as(12, 5, 5, 7), 10);
        check.comes("INVOKE AS", as, 7, object, ten, 3);
        check.due("of J", house.told(2), 6);
        steps("no step of AS", 2);
        check.fails("INVOKE AS of NULL", as, 1, -1, ten, 3);
        check.fails("a value's error", as, 1, object, -1, 3);
        check.fails("it may not: ahead of the values", check.make(28, 0, check.type(3, 7, 2), 0), 5, object, -1, 3);
        check.fails("other places", check.make(28, 0, check.type(5, 5), 0), 5, object, 3);
        check.comes("its own type", check.make(28, 0, house.handle(minus, 0), 0), 7, object, 10, 3);
        int target = house.target(minus);
        int h = check.make(29, target, 0, 0);
        check.comes("TARGET", h, 7, 10, 3);
        house.aim(target, check.make(3, 0, 5, 0));
        check.comes("TARGET aimed anew", h, 13, 10, 3);
        steps("TARGET", 2);
        house.aim(target, h);
        check.due("TARGET aimed at itself", check.run(h, 10000, 10, 3), 3);
    }

    private static void questions() {
        HandleHouse house = check.fresh("promise 18, IS, SAME, EMPTY");
        int five = check.kept(as(12, 5, 5, 7), 5);
        int again = check.kept(as(12, 5, 5, 13), 5);
        int six = check.kept(as(12, 5, 5, 7), 6);
        int row = check.kept(check.make(20, 15, 0, 0), 1);
        int other = check.kept(check.make(20, 15, 0, 0), 1);
        check.comes("IS its box", check.make(31, 13, 0, 0), 1, five);
        check.comes("IS N", check.make(31, 8, 0, 0), 1, five);
        check.comes("IS another box", check.make(31, 14, 0, 0), 0, five);
        check.comes("IS of NULL", check.make(31, 7, 0, 0), 0, -1);
        check.comes("IS O", check.make(31, 7, 0, 0), 1, row);
        int same = check.make(32, 0, 0, 0);
        check.comes("boxes of one number", same, 1, five, again);
        check.comes("boxes of two", same, 0, five, six);
        check.comes("one row", same, 1, row, row);
        check.comes("two rows", same, 0, row, other);
        check.comes("NULL and NULL", same, 1, -1, -1);
        check.comes("NULL and a row", same, 0, -1, row);
        check.comes("EMPTY of J", check.make(34, 0, check.type(6, 5), 0), 0, 4);
        check.comes("EMPTY of O", check.make(34, 0, check.type(7), 0), 0);
        check.due("NULL", house.told(3), 0);
    }
}
