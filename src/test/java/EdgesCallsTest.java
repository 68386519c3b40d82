/** Sentences of Terms 4 (CALLS) and of promises 17 to 23: values wait, handles run, what they come to is told and kept. */
public final class EdgesCallsTest {
    private static final Check check = new Check("EdgesCallsTest");

    public static void main(String[] args) {
        tooDeep();
        depthOfForms();
        depthOfMembers();
        depthOfOpenCalls();
        outOfFuel();
        nothingMore();
        resultOrThrown();
        thrownThrough();
        errorsAreObjects();
        errorCodes();
        rowOfHundred();
        thousandThings();
        fullEndsAll();
        valuesWait();
        valuesRefused();
        runAnswers();
        runRefused();
        refusedRunTakesValues();
        toldOfRun();
        toldCounts();
        toldNone();
        results();
        keeping();
        keepRefused();
        valueQuestions();
        noSuchValue();
        elements();
        noSuchElement();
        check.end();
    }

    /** Handles (I)I, by how many calls each is, one within the other: a SWITCH without others calls its h. */
    private static int[] chains(int most) {
        int[] chains = new int[most + 1];
        chains[1] = check.self(5);
        for (int calls = 2; calls <= most; calls++) {
            chains[calls] = check.make(17, 0, 0, 0, chains[calls - 1]);
        }
        return chains;
    }

    private static void tooDeep() {
        HandleHouse house = check.sentence("4. CALLS. To CALL a HANDLE with VALUES for its PLACES: it is TOO DEEP if it is within"
            + " 100 other CALLS that have not ended;");
        int[] chains = chains(101);
        int hundred = chains[100];
        int more = chains[101];
        check.comes("within 99 others", hundred, 7, 7);
        check.due("steps", house.told(1), 100);
        check.due("within 100 others", check.run(more, 10000, 7), 3);
        check.due("the one that is TOO DEEP is no STEP", house.told(1), 100);
        check.due("TOO DEEP is asked ahead of FUEL", check.run(more, 100, 7), 3);
        check.due("told", house.told(0), 3);
        check.due("but FUEL that ends ahead of it", check.run(more, 99, 7), 2);
    }

    private static void depthOfForms() {
        check.sentence("To CALL a HANDLE with VALUES for its PLACES: it is TOO DEEP if it is within 100 other CALLS");
        int[] chains = {};
        for (int i = 0; i < CALLERS; i++) {
            if (i % 10 == 0) {
                check.again();
                check.row(15, 1);
                chains = chains(100);
            }
            int within = caller(i, chains[99], chains[98]);
            int beyond = caller(i, chains[100], chains[99]);
            int places = check.house.typeAbout(check.house.handle(within, 0), -2);
            // the one ROW is VALUE 0; a number is 0, too
            long[] values = new long[places];
            String what = "FORM " + check.house.handle(within, 1) + ", caller " + i;
            check.due(what + ": 100 open", check.run(within, 10000, values), 0);
            check.due(what + ": 101 open", check.run(beyond, 10000, values), 3);
        }
    }

    private static final int CALLERS = 30;

    /** A handle of each form that calls others: h in each of its roles, or one shorter where another call is between. */
    private static int caller(int i, int h, int shorter) {
        HandleHouse house = check.house;
        int self = check.self(5);
        switch (i) {
            case 0: return check.make(4, 0, check.type(0, 6), 0, h);
            case 1: return check.make(5, 0, check.type(5, 6, 5), 0, h, 1);
            case 2: return check.make(6, 0, 0, 5, h);
            case 3: return check.make(7, 0, 0, 0, check.empty(5, 5), h);
            case 4: return check.make(7, 0, 0, 0, h, check.empty(5, 5));
            case 5: return check.make(8, 0, 0, 0, check.make(3, 0, 5, 0), h);
            case 6: return check.make(8, 0, 0, 0, h, check.constant(5, 5));
            case 7: return check.make(9, 0, 0, 0, h, check.empty(6, 5));
            case 8: return check.make(9, 0, 0, 0, check.empty(5, 5), h);
            case 9: return check.make(10, 15, 1, 0, h);
            case 10: return check.make(11, 0, 1, 0, check.make(10, 15, 1, 0, shorter));
            case 11: return check.make(12, 0, check.type(6, 5), 0, h);
            case 12: return check.make(13, 0, check.type(2, 5), 0, h);
            case 13: return check.make(14, 0, 0, 0, check.constant(1, 1), h, self);
            case 14: return check.make(14, 0, 0, 0, check.constant(1, 0), self, h);
            case 15: return check.make(14, 0, 0, 0, check.make(9, 0, 0, 0, shorter, check.empty(1, 5)), self, self);
            case 16: return check.make(15, 19, 0, 0, h, check.empty(5, 19));
            case 17: return check.make(15, 19, 0, 0, check.make(6, 1, 0, 0, check.make(3, 3, 5, 0)), check.make(4, 0, check.type(0, 19), 0, shorter));
            case 18: return check.make(16, 0, 0, 0, h, check.empty(5, 19, 5));
            case 19: return check.make(16, 0, 0, 0, self, check.make(4, 0, check.type(0, 19), 0, shorter));
            case 20: return check.make(17, 0, 0, 0, h);
            case 21: return check.make(18, 0, check.type(5, 5), 0, h, -1, check.constant(1, 0), self);
            case 22: return check.make(18, 0, check.type(5, 5), 0, -1, h, check.constant(1, 0), self);
            case 23: return check.make(18, 0, check.type(5, 5), 0, -1, -1, check.make(9, 0, 0, 0, shorter, check.empty(1, 5)), self);
            case 24: return check.make(18, 0, check.type(5, 5), 0, -1, -1, check.constant(1, 0), h);
            case 25: return check.make(29, house.target(h), 0, 0);
            case 26: return check.make(30, house.point(), 0, 0, h, self);
            case 27:
                int off = house.point();
                house.off(off);
                return check.make(30, off, 0, 0, self, h);
            default:
                int invoke = check.make(i == 28 ? 27 : 28, 0, check.type(i == 28 ? 5 : 6, 5), 0);
                return check.make(6, 0, 0, check.object(shorter), invoke);
        }
    }

    private static void depthOfMembers() {
        HandleHouse house = check.sentence("it is TOO DEEP if it is within 100 other CALLS that have not ended;");
        house.newClass(7, 0);
        int[] chains = chains(99);
        int ofClass = check.type(0, 20);
        int instance = check.instance(20);
        int nothing = check.type(0);
        for (int k = 0; k <= 1; k++) {
            house.method(20, 1 + k, check.make(4, 0, ofClass, 0, chains[98 + k]), false, 3);
            int bound = check.make(6, 0, 0, 5, chains[96 + k]);
            house.newClass(7, 0);
            int maker = check.make(4, 0, check.type(0, 21 + k), 0, check.make(12, 0, nothing, 0, bound));
            house.method(21 + k, 0, maker, false, 3);
            int due = k == 0 ? 0 : 3;
            check.due("VIRTUAL", check.run(house.find(20, 20, 1 + k, check.type(5, 5), 1), 10000, instance, 5), due);
            check.due("SPECIAL", check.run(house.find(20, 20, 1 + k, check.type(5, 5), 2), 10000, instance, 5), due);
            check.due("NEW", check.run(house.find(20, 21 + k, 0, nothing, 3), 10000), due);
        }
    }

    private static void depthOfOpenCalls() {
        HandleHouse house = check.sentence("CALLS that have not ended;");
        int long91 = chains(91)[91];
        int sum = check.make(8, 0, 0, 0, check.make(9, 0, 0, 0, check.make(3, 0, 5, 0), long91), long91);
        check.comes("185 CALLS, never 101 open", sum, 8, 4);
        check.due("steps", house.told(1), 1 + 91 + 1 + 1 + 91);
    }

    private static void outOfFuel() {
        HandleHouse house = check.sentence("then it is a STEP, OUT OF FUEL if that is one more than FUEL;");
        int five = chains(5)[5];
        check.due("FUEL 5 for 5 STEPS", check.run(five, 5, 7), 0);
        check.due("steps", house.told(1), 5);
        check.due("FUEL 4 for 5 STEPS", check.run(five, 4, 7), 2);
        check.due("steps", house.told(1), 4);
        check.due("FUEL 1", check.run(five, 1, 7), 2);
        check.due("steps", house.told(1), 1);
        check.due("FUEL 1 for one STEP", check.run(check.self(5), 1, 7), 0);
        int loop = check.make(18, 0, check.type(5), 0, -1, -1, check.constant(1, 1), -1);
        check.due("FUEL 10,000", check.run(loop, 10000), 2);
        check.due("steps", house.told(1), 10000);
    }

    /** (I)V: puts a number into a row's only element. */
    private static int marking(int row) {
        return check.make(6, 0, 0, row, check.make(6, 1, 0, 0, check.make(23, 15, 0, 0)));
    }

    private static void nothingMore() {
        HandleHouse house = check.sentence("both end all that runs, nothing more is done.");
        int row = check.row(15, 1);
        int mark = check.make(6, 0, 0, 5, marking(row));
        int last = check.make(4, 0, check.type(0, 19), 0, mark);
        int caught = check.make(4, 0, check.type(0, 19), 0, mark);
        int endless = house.target(check.empty(0));
        int self = check.make(29, endless, 0, 0);
        house.aim(endless, self);
        int deep = check.make(16, 0, 0, 0, check.make(15, 19, 0, 0, self, caught), last);
        check.due("TOO DEEP", check.run(deep, 10000), 3);
        check.due("no CATCH, no FINALLY", house.element(row, 0, 0), 0);
        check.due("OUT OF FUEL", check.run(deep, 50), 2);
        check.due("no CATCH, no FINALLY", house.element(row, 0, 0), 0);
        check.due("no RESULT", house.result(), 0);
        check.due("nothing to keep", house.keep(), -1);
        check.due("what was done ahead of it stays", check.run(check.make(9, 0, 0, 0, mark, self), 10000), 3);
        check.due("it was marked", house.element(row, 0, 0), 5);
    }

    private static void resultOrThrown() {
        HandleHouse house = check.sentence("Otherwise it comes to a RESULT, or THROWS an OBJECT.");
        int divide = check.make(3, 3, 5, 0);
        check.due("a RESULT", check.run(divide, 1, 7, 2), 0);
        check.due("it is", house.result(), 3);
        check.due("THROWS", check.run(divide, 1, 7, 0), 1);
        check.due("an OBJECT of E", house.told(3), 19);
    }

    private static void thrownThrough() {
        HandleHouse house = check.sentence("What is thrown in a CALL that is within it, it THROWS, but where told.");
        int row = check.row(15, 1);
        int divide = check.make(3, 3, 5, 0);
        int behind = check.make(9, 0, 0, 0, divide, marking(row));
        check.fails("RESULT", behind, 3, 1, 0);
        check.due("what is behind isn't called", house.element(row, 0, 0), 0);
        check.fails("COLLECT", check.make(7, 0, 0, 0, marking(row), divide), 3, 1, 0);
        check.fails("FOLD", check.make(8, 0, 0, 0, divide, check.make(9, 0, 0, 0, check.self(5), check.make(6, 1, 0, 0, divide))), 3, 1);
        check.due("nor there", house.element(row, 0, 0), 0);
        check.fails("GUARD's h", check.make(14, 0, 0, 0, check.make(9, 0, 0, 0, divide, check.make(12, 0, check.type(1, 5), 0,
            check.empty(1, 5))), divide, divide), 3, 4, 0);
        check.fails("AS", check.make(12, 0, check.type(7, 2, 2), 0, divide), 3, 4, 0);
        check.fails("DROP", check.make(4, 0, check.type(0, 6), 0, divide), 3, 8, 4, 0);
        check.comes("CATCH, where it is told", check.make(15, 19, 0, 0, divide, check.make(33, 0, 0, 0)), 3, 1, 0);
    }

    private static void errorsAreObjects() {
        HandleHouse house = check.sentence("An ERROR with a CODE that is told below is THROWN as an OBJECT of E.");
        check.run(check.make(3, 4, 6, 0), 1, 7, 0);
        check.due("THREW", house.told(0), 1);
        check.due("E", house.told(2), 19);
        check.due("its kind", house.told(3), 19);
        check.due("its CODE", house.result(), 3);
        int error = house.keep();
        check.comes("it is an OBJECT", check.make(33, 0, 0, 0), 3, error);
        check.comes("caught as E", check.make(15, 19, 0, 0, check.make(3, 3, 5, 0), check.make(33, 0, 0, 0)), 3, 9, 0);
        house.newClass(19, 0);
        check.fails("not of a CLASS below E", check.make(15, 20, 0, 0, check.make(3, 3, 5, 0), check.empty(5, 20)), 3, 9, 0);
    }

    private static void errorCodes() {
        check.sentence("ERRORS: 1 NULL, 2 an OBJECT of another kind, 3 division by 0, 4 a ROW's size below 0, 5 a HANDLE of another"
            + " TYPE, 6 no such ELEMENT, 7 a ROW of another size.");
        int row = check.row(15, 2);
        int self = check.self(5);
        check.fails("1", check.make(21, 15, 0, 0), 1, -1);
        check.fails("2", check.placeAs(12, 7, 16), 2, row);
        check.fails("3", check.make(3, 3, 5, 0), 3, 1, 0);
        check.fails("4", check.make(20, 15, 0, 0), 4, -1);
        check.fails("5", check.make(27, 0, check.type(5), 0), 5, check.object(self));
        check.fails("6", check.make(22, 15, 0, 0), 6, row, 2);
        check.fails("7", check.make(10, 15, 1, 0, self), 7, row);
    }

    private static void rowOfHundred() {
        HandleHouse house = check.sentence("A ROW has at most 100 ELEMENTS,");
        for (int kind = 15; kind <= 17; kind++) {
            int made = check.make(20, kind, 0, 0);
            check.comesTo("100", kind, 100, made, 100);
            check.due("101", check.run(made, 9, 101), 4);
            check.due("the greatest size", check.run(made, 9, Integer.MAX_VALUE), 4);
        }
        check.due("how many were made", house.told(4), 3);
        int row = check.row(15, 100);
        check.comes("ELEMENT 99", check.make(22, 15, 0, 0), 0, row, 99);
        check.fails("ELEMENT 100", check.make(22, 15, 0, 0), 6, row, 100);
    }

    /** Makes so many rows by one run. */
    private static void makeRows(int n) {
        int ofV = check.make(6, 0, 0, 0, check.make(12, 0, check.type(0, 5), 0, check.make(20, 15, 0, 0)));
        int inc = check.make(6, 1, 0, 1, check.make(3, 0, 5, 0));
        int loop = check.make(18, 0, check.type(0, 5), 0, -1, ofV, -1, -1, -1, inc, check.make(3, 11, 5, 0), -1);
        check.due("rows are made", check.run(loop, 10000, n), 0);
    }

    private static void thousandThings() {
        HandleHouse house = check.sentence("there are at most 1000 ROWS and INSTANCES (all that were made count): what would make"
            + " more ends all that runs: FULL.");
        house.newClass(7, 0);
        int newRow = check.make(20, 16, 0, 0);
        int newInstance = check.maker(20);
        int gather = check.make(11, 0, 0, 0, check.self(17));
        check.due("an INSTANCE", check.run(newInstance, 9), 0);
        makeRows(996);
        check.due("all count, though nobody has them", house.told(4), 997);
        check.due("the 998th, by GATHER", check.run(gather, 9), 0);
        check.due("the 999th, an INSTANCE", check.run(newInstance, 9), 0);
        check.due("the 1000th", check.run(newRow, 9, 100), 0);
        check.due("how many", house.told(4), 1000);
        check.due("one more by NEW ROW", check.run(newRow, 9, 0), 4);
        check.due("its steps", house.told(1), 1);
        check.due("one more by GATHER", check.run(gather, 9), 4);
        check.due("one more INSTANCE", check.run(newInstance, 9), 4);
        check.due("its steps: the MAKER isn't called", house.told(1), 1);
        check.due("how many", house.told(4), 1000);
    }

    private static void fullEndsAll() {
        HandleHouse house = check.sentence("what would make more ends all that runs: FULL.");
        int row = check.row(15, 1);
        int mark = check.make(6, 0, 0, 5, marking(row));
        int big = check.make(6, 0, 0, 101, check.make(12, 0, check.type(0, 5), 0, check.make(20, 15, 0, 0)));
        int other = check.make(4, 0, check.type(0, 19), 0, mark);
        int h = check.make(16, 0, 0, 0, check.make(15, 19, 0, 0, big, other), other);
        check.due("FULL", check.run(h, 99), 4);
        check.due("no CATCH, no FINALLY", house.element(row, 0, 0), 0);
        check.due("nor what is behind", check.run(check.make(9, 0, 0, 0, big, mark), 99), 4);
        check.due("it wasn't called", house.element(row, 0, 0), 0);
        check.due("told", house.told(0), 4);
        check.due("V", house.told(2), 0);
        check.due("no OBJECT", house.told(3), 0);
    }

    private static void valuesWait() {
        HandleHouse house = check.sentence("One more value waits for run(): a PLAIN number; for a REFERENCE -1 for NULL, or a VALUE.");
        int row = check.row(15, 4);
        int h = check.make(9, 0, 0, 0, check.make(4, 1, check.type(0, 6), 0, check.make(21, 15, 0, 0)), check.self(5));
        check.comes("a VALUE and a number", h, 4, row, Long.MIN_VALUE);
        check.fails("NULL", h, 1, -1, -1);
        check.due("a number that no kind has may wait", house.pass(Long.MAX_VALUE), true);
        check.due("and is refused by run()", house.run(check.self(5), 9), -1);
    }

    private static void valuesRefused() {
        HandleHouse house = check.sentence("False, refused, when 10 wait.");
        int ten = check.make(5, 0, check.type(6, 6, 6, 6, 6, 6, 6, 6, 6, 6, 6), 0, check.self(6), 9);
        for (int i = 0; i < 10; i++) {
            check.due("value " + i, house.pass(100 + i), true);
        }
        check.due("the 11th", house.pass(1), false);
        check.due("the 12th", house.pass(2), false);
        check.due("the ten wait still", house.run(ten, 9), 0);
        check.due("the last is the tenth", house.result(), 109);
        check.due("none wait then", house.pass(3), true);
        check.due("just that one", house.run(check.self(6), 9), 0);
        check.due("it", house.result(), 3);
    }

    private static void runAnswers() {
        HandleHouse house = check.sentence("A HANDLE is called with the values that wait (none wait then), with FUEL: 0 it came to a"
            + " RESULT, 1 it THREW, 2 OUT OF FUEL, 3 TOO DEEP, 4 FULL.");
        int divide = check.make(3, 3, 5, 0);
        int target = house.target(check.empty(0));
        int self = check.make(29, target, 0, 0);
        house.aim(target, self);
        check.due("0", check.run(divide, 9, 7, 2), 0);
        check.due("told", house.told(0), 0);
        check.due("none wait then", house.run(divide, 9), -1);
        check.due("1", check.run(divide, 9, 7, 0), 1);
        check.due("told", house.told(0), 1);
        check.due("2", house.run(self, 9), 2);
        check.due("told", house.told(0), 2);
        check.due("3", house.run(self, 10000), 3);
        check.due("told", house.told(0), 3);
        check.due("4", check.run(check.make(20, 15, 0, 0), 9, 101), 4);
        check.due("told", house.told(0), 4);
    }

    private static void runRefused() {
        HandleHouse house = check.sentence("NONE, refused (values wait no more): there is no such HANDLE, FUEL isn't 1 .. 10,000, there"
            + " are not as many values as PLACES, or one isn't of its PLACE's kind, or no VALUE.");
        int plus = check.make(3, 0, 5, 0);
        for (int h : new int[] {Integer.MIN_VALUE, -1, 1, 499, 500, Integer.MAX_VALUE}) {
            check.due("HANDLE " + h, check.run(h, 9, 1, 2), -1);
        }
        for (int fuel : new int[] {Integer.MIN_VALUE, -1, 0, 10001, Integer.MAX_VALUE}) {
            check.due("FUEL " + fuel, check.run(plus, fuel, 1, 2), -1);
        }
        check.due("FUEL 1", check.run(plus, 1, 1, 2), 0);
        check.due("FUEL 10,000", check.run(plus, 10000, 1, 2), 0);
        check.due("no values", check.run(plus, 9), -1);
        check.due("one value", check.run(plus, 9, 1), -1);
        check.due("three values", check.run(plus, 9, 1, 2, 3), -1);
        check.due("the first isn't of its kind", check.run(plus, 9, 1L << 31, 2), -1);
        check.due("the last isn't of its kind", check.run(plus, 9, 1, -(1L << 31) - 1), -1);
        int row = check.row(15, 1);
        int other = check.row(16, 1);
        int size = check.make(21, 15, 0, 0);
        check.due("a VALUE", check.run(size, 9, row), 0);
        check.due("a VALUE of another kind", check.run(size, 9, other), -1);
        check.due("no VALUE", check.run(size, 9, 2), -1);
        check.due("VALUE -2", check.run(size, 9, -2), -1);
        check.due("a VALUE beyond an int", check.run(size, 9, 1L << 32), -1);
        check.due("NULL is of each REFERENCE", check.run(size, 9, -1), 1);
        check.due("no values for none", house.run(check.constant(5, 1), 9), 0);
        check.due("a value for none", check.run(check.constant(5, 1), 9, 1), -1);
        check.due("-1 for none", check.run(check.constant(5, 1), 9, -1), -1);
        check.due("a third value, -1", check.run(plus, 9, 1, 2, -1), -1);
        check.due("NULL and -1", check.run(size, 9, -1, -1), -1);
    }

    private static void refusedRunTakesValues() {
        HandleHouse house = check.sentence("NONE, refused (values wait no more):");
        int plus = check.make(3, 0, 5, 0);
        int one = check.constant(5, 1);
        int[][] refused = {{9, 9, 1}, {plus, 0, 1, 2}, {plus, 10001, 1, 2}, {plus, 9, 1}, {plus, 9, 1, 2, 3}};
        for (int[] run : refused) {
            for (int i = 2; i < run.length; i++) {
                house.pass(run[i]);
            }
            check.due("run(" + run[0] + ", " + run[1] + ")", house.run(run[0], run[1]), -1);
            check.due("none wait", house.run(one, 9), 0);
        }
        house.pass(1L << 40);
        house.pass(1);
        check.due("of another kind", house.run(plus, 9), -1);
        check.due("none wait", house.run(one, 9), 0);
    }

    private static void toldOfRun() {
        HandleHouse house = check.sentence("Of the latest run() that was not refused: what it came to (what 0; NONE before), STEPS (1;"
            + " OUT OF FUEL: its FUEL), the kind of the RESULT's TYPE (2; of one that THREW E; else V), the kind of the OBJECT that is"
            + " the RESULT or was thrown (3; 0 for none).");
        toldIs("before", -1, 0, 0, 0);
        int box = check.resultAs(12, 5, 7);
        check.run(box, 9);
        toldIs("a refused one first", -1, 0, 0, 0);
        check.run(box, 9, 7);
        toldIs("a RESULT of O that is a box", 0, 2, 7, 13);
        check.run(box, 9);
        check.run(box, 0, 7);
        check.run(99, 9);
        toldIs("behind refused ones", 0, 2, 7, 13);
        check.run(box, 1, 7);
        toldIs("OUT OF FUEL", 2, 1, 0, 0);
        house.newClass(19, 0);
        int instance = check.instance(20);
        check.run(check.make(19, 5, 20, 0), 9, instance);
        toldIs("an INSTANCE was thrown", 1, 1, 19, 20);
        check.run(check.make(19, 5, 20, 0), 9, -1);
        toldIs("an ERROR was thrown", 1, 1, 19, 19);
        check.run(check.self(15), 9, -1);
        toldIs("NULL", 0, 1, 15, 0);
        check.run(check.self(4), 9, 65535);
        toldIs("a number", 0, 1, 4, 0);
        check.run(check.empty(0), 9);
        toldIs("V", 0, 1, 0, 0);
    }

    private static void toldIs(String what, int came, int steps, int kind, int object) {
        check.due(what + ": came to", check.house.told(0), came);
        check.due(what + ": steps", check.house.told(1), steps);
        check.due(what + ": kind", check.house.told(2), kind);
        check.due(what + ": object", check.house.told(3), object);
    }

    private static void toldCounts() {
        HandleHouse house = check.sentence("How many ROWS and INSTANCES there are (4), VALUES (5), TYPES (6), HANDLES (7), members (8).");
        for (int what = 4; what <= 8; what++) {
            check.due("told(" + what + ") of a new object", house.told(what), 0);
        }
        house.newClass(7, 0);
        check.row(15, 1);
        check.due("one ROW", house.told(4), 1);
        check.due("one VALUE", house.told(5), 1);
        check.due("one TYPE", house.told(6), 1);
        check.due("one HANDLE", house.told(7), 1);
        house.field(20, 0, 5, true, 0);
        check.due("one member", house.told(8), 1);
        check.instance(20);
        check.due("an INSTANCE more", house.told(4), 2);
        check.due("a VALUE more", house.told(5), 2);
        check.due("a METHOD more", house.told(8), 2);
    }

    private static void toldNone() {
        HandleHouse house = check.sentence("NONE for another what. ## Promise 20");
        check.run(check.self(5), 9, 1);
        for (int what : new int[] {Integer.MIN_VALUE, -2, -1, 9, 10, Integer.MAX_VALUE}) {
            check.due("told(" + what + ")", house.told(what), -1);
        }
    }

    private static void results() {
        HandleHouse house = check.sentence("The number that the RESULT of the latest run() is, or that the OBJECT that is the RESULT or was"
            + " thrown has: of a BOX its number, of a ROW its size, of H its HANDLE, of E its CODE; 0 for all else.");
        check.due("before", house.result(), 0);
        check.comes("a number", check.self(6), Long.MIN_VALUE, Long.MIN_VALUE);
        check.comes("of a BOX", check.resultAs(12, 3, 7), -32768, -32768);
        check.comes("of a ROW", check.make(20, 17, 0, 0), 100, 100);
        int self = check.self(6);
        check.comes("of H", check.make(1, 0, 0, 0, check.self(7)), check.self(7));
        check.comes("of E", check.self(19), 3, check.kept(check.make(3, 3, 5, 0), 1, 0));
        check.fails("of what was thrown", check.make(21, 16, 0, 0), 1, -1);
        house.newClass(19, 0);
        check.comesTo("of an INSTANCE", 20, 0, check.maker(20));
        check.run(check.make(19, 0, 20, 0), 9, house.keep());
        check.due("of a thrown INSTANCE", house.result(), 0);
        check.comes("of NULL", check.self(14), 0, -1);
        check.run(self, 9, 77);
        check.run(check.empty(0), 9);
        check.due("of V", house.result(), 0);
        check.run(self, 9, 77);
        check.run(check.make(12, 0, check.type(7, 6), 0, self), 1, 5);
        check.due("OUT OF FUEL", house.result(), 0);
        check.run(self, 9, 77);
        check.run(check.make(20, 15, 0, 0), 9, 101);
        check.due("FULL", house.result(), 0);
    }

    private static void keeping() {
        HandleHouse house = check.sentence("The RESULT of a REFERENCE's kind, or what was thrown, of the latest run() becomes a VALUE: its"
            + " number, from 0 on (a new one each time).");
        check.run(check.make(20, 16, 0, 0), 9, 3);
        check.due("the first", house.keep(), 0);
        check.due("a new one each time", house.keep(), 1);
        check.due("of one ROW", check.run(check.make(32, 0, 0, 0), 9, 0, 1), 0);
        check.due("the same", house.result(), 1);
        check.run(check.make(3, 3, 5, 0), 9, 1, 0);
        check.due("what was thrown", house.keep(), 2);
        check.due("its kind", house.value(2, 0), 19);
    }

    private static void keepRefused() {
        HandleHouse house = check.sentence("NONE, refused, when there is none such, it is NULL, or there are 100.");
        check.due("nothing ran", house.keep(), -1);
        check.run(check.self(5), 9, 5);
        check.due("a number", house.keep(), -1);
        check.run(check.self(17), 9, -1);
        check.due("NULL", house.keep(), -1);
        check.run(check.empty(0), 9);
        check.due("V", house.keep(), -1);
        check.run(check.make(20, 15, 0, 0), 9, 101);
        check.due("FULL", house.keep(), -1);
        check.run(check.make(6, 0, 0, 1, check.make(20, 15, 0, 0)), 1);
        check.due("OUT OF FUEL", house.keep(), -1);
        check.due("none was kept", house.told(5), 0);
        check.run(check.resultAs(12, 5, 7), 9, 7);
        for (int i = 0; i < 100; i++) {
            check.due("VALUE " + i, house.keep(), i);
        }
        check.due("the 101st", house.keep(), -1);
        check.due("how many", house.told(5), 100);
        check.due("VALUE 99", house.value(99, 1), 7);
        check.comes("VALUE 99 is passed", check.self(7), 7, 99);
        check.due("VALUE 100 isn't", check.run(check.self(7), 9, 100), -1);
        check.refused("nor a CONSTANT", 1, 0, 7, 0, 100);
        check.hasType("CONSTANT of VALUE 99", check.constant(7, 99), 7);
    }

    private static void valueQuestions() {
        HandleHouse house = check.sentence("Of VALUE v: its kind (what 0), the number that it has as result() tells it (1).");
        int box = check.box(6, Long.MIN_VALUE);
        check.due("kind of a BOX", house.value(box, 0), 14);
        check.due("number of a BOX", house.value(box, 1), Long.MIN_VALUE);
        int row = check.row(17, 0);
        check.due("kind of a ROW", house.value(row, 0), 17);
        check.due("number of a ROW", house.value(row, 1), 0);
        house.newClass(7, 0);
        int first = check.instance(20);
        int second = check.kept(house.find(20, 20, 0, check.type(0), 3));
        check.due("kind of an INSTANCE", house.value(second, 0), 20);
        check.due("number of an INSTANCE", house.value(first, 1) + house.value(second, 1), 0);
    }

    private static void noSuchValue() {
        HandleHouse house = check.sentence("0 when there is none such. ## Promise 23");
        int box = check.box(6, 5);
        for (int what : new int[] {Integer.MIN_VALUE, -1, 2, Integer.MAX_VALUE}) {
            check.due("what " + what, house.value(box, what), 0);
        }
        for (int v : new int[] {Integer.MIN_VALUE, -1, 1, 99, 100, Integer.MAX_VALUE}) {
            check.due("kind of VALUE " + v, house.value(v, 0), 0);
            check.due("number of VALUE " + v, house.value(v, 1), 0);
        }
    }

    private static void elements() {
        HandleHouse house = check.sentence("Of ELEMENT k of VALUE v, a ROW: the number (of 15, 16), or of the OBJECT (of 17) as result() tells"
            + " it (what 0), its kind (1; of 15, 16: I, J; NULL: 0).");
        int ints = check.row(15, 2);
        int longs = check.row(16, 2);
        int objects = check.row(17, 4);
        check.run(check.make(23, 15, 0, 0), 9, ints, 1, Integer.MIN_VALUE);
        check.run(check.make(23, 16, 0, 0), 9, longs, 0, Long.MAX_VALUE);
        int set = check.make(23, 17, 0, 0);
        check.run(set, 9, objects, 0, ints);
        check.run(set, 9, objects, 1, check.box(2, -7));
        house.newClass(7, 0);
        check.run(set, 9, objects, 3, check.instance(20));
        long[][] due = {{ints, 0, 0, 5}, {ints, 1, Integer.MIN_VALUE, 5}, {longs, 0, Long.MAX_VALUE, 6}, {longs, 1, 0, 6},
            {objects, 0, 2, 15}, {objects, 1, -7, 10}, {objects, 2, 0, 0}, {objects, 3, 0, 20}};
        for (long[] row : due) {
            String what = "ELEMENT " + row[1] + " of VALUE " + row[0];
            check.due(what, house.element((int) row[0], (int) row[1], 0), row[2]);
            check.due(what + ": kind", house.element((int) row[0], (int) row[1], 1), row[3]);
        }
    }

    private static void noSuchElement() {
        HandleHouse house = check.sentence("0 when there is none such. ## Promise 24");
        int row = check.row(15, 2);
        check.run(check.make(23, 15, 0, 0), 9, row, 0, 7);
        check.run(check.make(23, 15, 0, 0), 9, row, 1, 8);
        int box = check.box(5, 7);
        int none = check.row(16, 0);
        for (int k : new int[] {Integer.MIN_VALUE, -1, 2, 99, 100, Integer.MAX_VALUE}) {
            check.due("ELEMENT " + k, house.element(row, k, 0), 0);
            check.due("its kind", house.element(row, k, 1), 0);
        }
        int zero = check.box(5, 0);
        int handle = check.object(0);
        int error = check.kept(check.make(3, 3, 6, 0), 1, 0);
        int one = check.box(6, 1);
        for (int v : new int[] {Integer.MIN_VALUE, -1, 7, 100, Integer.MAX_VALUE, box, none, zero, handle, error, one}) {
            check.due("VALUE " + v, house.element(v, 0, 0), 0);
            check.due("its kind", house.element(v, 0, 1), 0);
        }
        house.newClass(7, 0);
        house.field(20, 1, 5, false, 3);
        int instance = check.instance(20);
        check.run(house.find(20, 20, 1, 0, 5), 9, instance, 55);
        check.due("an INSTANCE", house.element(instance, 0, 0), 0);
        check.due("its kind", house.element(instance, 0, 1), 0);
        for (int what : new int[] {Integer.MIN_VALUE, -1, 2, Integer.MAX_VALUE}) {
            check.due("what " + what, house.element(row, 0, what), 0);
        }
        check.due("one that there is", house.element(row, 1, 0), 8);
    }
}
