/** Sentences of Terms 5, FORMS 18 to 38 and simpler ones, of Terms 7, and of promises 6 to 8 and 12 to 16. */
public final class EdgesHandlesTest {
    private static final Check check = new Check("EdgesHandlesTest");

    public static void main(String[] args) {
        loopClauses();
        loopVariables();
        loopPlaces();
        loopTests();
        loopInits();
        loopRounds();
        thrower();
        newRow();
        size();
        elementForms();
        elementChanges();
        elementErrors();
        addingElements();
        invoke();
        invokeAs();
        target();
        point();
        is();
        same();
        code();
        empty();
        foundAlone();
        simplerOnes();
        simplerMoves();
        handleNumbers();
        oneHandle();
        refusalOne();
        refusalTwo();
        refusalThree();
        refusalFour();
        refusalFive();
        refusalOrder();
        refusedMakesNothing();
        makeTakesRow();
        notLookedAt();
        handleQuestions();
        noSuchPart();
        constants();
        refusedTells();
        targets();
        aiming();
        points();
        off();
        check.end();
    }

    private static void loopClauses() {
        HandleHouse house = check.sentence("18 LOOP of TYPE b, its PLACES A: four PARTS for each of 1 to 4 clauses, INIT, STEP, TEST, END, -1 for none.");
        int type = check.type(5);
        int no = check.constant(1, 0);
        int seven = check.constant(5, 7);
        check.refused("no clause", 1, 18, 0, type, 0);
        check.refused("three PARTS", 1, 18, 0, type, 0, -1, -1, no);
        check.refused("five PARTS", 1, 18, 0, type, 0, -1, -1, no, -1, -1);
        int one = check.make(18, 0, type, 0, -1, -1, no, seven);
        check.hasType("one clause", one, 5);
        check.comes("END", one, 7);
        check.due("four PARTS", house.handle(one, 4), 4);
        check.due("-1", house.handle(one, 5), -1);
        check.due("TEST", house.handle(one, 7), no);
        int four = check.make(18, 0, type, 0, -1, -1, -1, -1, -1, -1, -1, -1, -1, -1, -1, -1, -1, -1, no, seven);
        check.comes("four clauses", four, 7);
        check.refused("15 PARTS", 1, 18, 0, type, 0, -1, -1, no, -1, -1, -1, no, -1, -1, -1, no, -1, -1, -1, no);
        check.refused("five clauses", 1, 18, 0, type, 0, -1, -1, no, -1, -1, -1, no, -1, -1, -1, no, -1, -1, -1, no, -1, -1, -1, no, -1);
        check.refused("PART -2", 1, 18, 0, type, 0, -2, -1, no, seven);
        check.refused("no such PART", 1, 18, 0, type, 0, -1, -1, no, 99);
        check.refused("no such TYPE", 1, 18, 0, 99, 0, -1, -1, no, seven);
        check.refused("TYPE -1", 1, 18, 0, -1, 0, -1, -1, no, seven);
    }

    private static void loopVariables() {
        check.sentence("A clause's VARIABLE is of the kind of STEP's RESULT, without one of INIT's; none for V, or without both; where"
            + " both are, they have one RESULT.");
        int type = check.type(6);
        int no = check.constant(1, 0);
        int wide = check.constant(6, 9);
        int self = check.self(6);
        check.comes("STEP's RESULT", check.make(18, 0, type, 0, -1, wide, no, self), 9);
        check.comes("INIT's without STEP", check.make(18, 0, type, 0, wide, -1, no, self), 9);
        check.comes("both", check.make(18, 0, type, 0, check.constant(6, 4), wide, no, self), 9);
        check.refused("two RESULTS", 3, 18, 0, type, 0, check.constant(5, 4), wide, no, self);
        check.refused("INIT of V, STEP of J", 3, 18, 0, type, 0, check.empty(0), wide, no, self);
        check.refused("INIT of J, STEP of V", 3, 18, 0, type, 0, wide, check.empty(0), no, -1);
        check.refused("none for V", 3, 18, 0, type, 0, -1, check.empty(0), no, self);
        check.refused("none for V of INIT", 3, 18, 0, type, 0, check.empty(0), -1, no, self);
        check.refused("none without both", 3, 18, 0, type, 0, -1, -1, no, self);
        int behind = check.make(18, 0, type, 0, -1, -1, -1, -1, check.empty(0), check.empty(0), -1, -1, -1, wide, no, self);
        check.comes("clauses without one don't count", behind, 9);
        int minus = check.make(3, 1, 6, 0);
        int two = check.make(18, 0, type, 0, wide, -1, -1, -1, -1, -1, -1, -1, check.constant(6, 4), -1, no, minus);
        check.comes("in the order of the clauses", two, 5);
        int stepped = check.make(18, 0, type, 0, wide, -1, -1, -1, check.constant(6, 4), check.constant(6, 2), no, minus);
        check.comes("one of INIT alone ahead of one with a STEP", stepped, 7);
        int tested = check.make(18, 0, type, 0, -1, -1, check.constant(1, 1), -1, wide, -1, no, self);
        check.comes("a clause with a TEST alone has none", tested, 9);
        check.again();
        check.due("HANDLE 0", check.constant(6, 8), 0);
        check.comes("of HANDLE 0 as INIT", check.make(18, 0, check.type(6), 0, 0, -1, check.constant(1, 0), check.self(6)), 8);
        check.comes("of HANDLE 0 as STEP", check.make(18, 0, check.type(6), 0, -1, 0, check.constant(1, 0), check.self(6)), 8);
    }

    private static void loopPlaces() {
        check.sentence("INIT has first PLACES of A; the others have first PLACES of (the VARIABLES, A);");
        int type = check.type(5, 6, 7);
        int no = check.constant(1, 0);
        int zero = check.constant(5, 0);
        check.hasType("INIT of none", check.make(18, 0, type, 0, zero, -1, no, -1), 5, 6, 7);
        check.hasType("INIT of all", check.make(18, 0, type, 0, check.empty(5, 6, 7), -1, no, -1), 5, 6, 7);
        check.refused("INIT of one more", 3, 18, 0, type, 0, check.empty(5, 6, 7, 7), -1, no, -1);
        check.refused("INIT of a VARIABLE", 3, 18, 0, type, 0, check.empty(5, 5), -1, no, -1);
        int[] all = {5, 6, 7};
        int[][] wrong = {{6}, {5, 7}, {5, 6, 6}, {5, 6, 7, 7}};
        check.hasType("STEP of all", check.make(18, 0, type, 0, -1, check.empty(5, all), no, -1), 5, 6, 7);
        check.hasType("TEST of all", check.make(18, 0, type, 0, zero, -1, check.empty(1, all), -1), 5, 6, 7);
        check.hasType("END of all", check.make(18, 0, type, 0, zero, -1, no, check.empty(5, all)), 5, 6, 7);
        for (int[] places : wrong) {
            check.refused("STEP", 3, 18, 0, type, 0, -1, check.empty(5, places), no, -1);
            check.refused("TEST", 3, 18, 0, type, 0, zero, -1, check.empty(1, places), -1);
            check.refused("END", 3, 18, 0, type, 0, zero, -1, no, check.empty(5, places));
        }
        int ten = check.type(0, 1, 1, 1, 1, 1, 1, 1, 1, 1, 1);
        int most = check.make(18, 0, ten, 0, zero, -1, check.empty(1, 5, 1, 1, 1, 1, 1, 1, 1, 1, 1), -1);
        check.hasType("a LOOP of ten PLACES", most, 0, 1, 1, 1, 1, 1, 1, 1, 1, 1, 1);
        check.due("with a VARIABLE ahead", check.run(most, 9, 1, 1, 1, 1, 1, 1, 1, 1, 1, 1), 0);
    }

    private static void loopTests() {
        check.sentence("TEST's RESULT is Z, END's b's; no END without a TEST; one TEST at least.");
        int type = check.type(5);
        int no = check.constant(1, 0);
        int seven = check.constant(5, 7);
        check.refused("TEST of I", 3, 18, 0, type, 0, -1, -1, seven, seven);
        check.refused("TEST of V", 3, 18, 0, type, 0, -1, -1, check.empty(0), seven);
        check.refused("TEST of I without END", 3, 18, 0, type, 0, -1, -1, seven, -1);
        check.refused("TEST of V without END", 3, 18, 0, type, 0, -1, -1, check.empty(0), -1);
        check.refused("TEST of J behind another", 3, 18, 0, type, 0, -1, -1, no, -1, -1, -1, check.constant(6, 0), -1);
        check.refused("END of J", 3, 18, 0, type, 0, -1, -1, no, check.constant(6, 7));
        check.refused("END of V", 3, 18, 0, type, 0, -1, -1, no, check.empty(0));
        check.refused("END without TEST", 3, 18, 0, type, 0, -1, -1, -1, seven, -1, -1, no, -1);
        check.refused("no TEST", 3, 18, 0, type, 0, seven, -1, -1, -1, -1, seven, -1, -1);
        check.refused("nothing", 3, 18, 0, type, 0, -1, -1, -1, -1);
        check.hasType("a TEST in the last clause", check.make(18, 0, type, 0, -1, -1, -1, -1, -1, -1, no, -1), 5);
        check.hasType("END of V for b of V", check.make(18, 0, check.type(0), 0, -1, -1, no, check.empty(0)), 0);
    }

    /** (I)V: writes a digit behind those that a row's ELEMENT 0 has. */
    private static int log(int row) {
        check.sound("(def log v ((r xi) (k i)) (set r 0 (+ (* 10 (get r 0)) k)))");
        return check.make(6, 0, 0, row, check.named("log"));
    }

    private static int mark(int log, int digit) {
        return check.make(6, 0, 0, digit, log);
    }

    /** ()k of a number, which also marks. */
    private static int marked(int log, int digit, int kind, long number) {
        return check.make(9, 0, 0, 0, mark(log, digit), check.constant(kind, number));
    }

    private static void loopInits() {
        HandleHouse house = check.sentence("The INITS (also those of V) are called, from the first on, and the VARIABLES get their RESULTS, the ZERO"
            + " without one.");
        int row = check.row(15, 1);
        int log = log(row);
        int type = check.type(5);
        int no = check.constant(1, 0);
        int h = check.make(18, 0, type, 0, marked(log, 1, 5, 30), -1, -1, -1, mark(log, 2), -1, -1, -1,
            marked(log, 3, 5, 4), -1, no, check.make(3, 1, 5, 0));
        check.comes("their RESULTS", h, 26);
        check.due("from the first on", house.element(row, 0, 0), 123);
        int inc = check.make(6, 1, 0, 1, check.make(3, 0, 5, 0));
        check.comes("the ZERO without INIT", check.make(18, 0, type, 0, -1, inc, no, check.self(5)), 1);
        int same = check.make(9, 0, 0, 0, check.make(31, 7, 0, 0), check.placeAs(13, 1, 5));
        int ofObjects = check.make(18, 0, type, 0, -1, check.self(7), no, same);
        check.comes("the ZERO of O is NULL", ofObjects, 0);
        check.comesTo("the ZERO of O is NULL", 0, 0, check.make(18, 0, check.type(7), 0, -1, check.self(7), no, check.self(7)));
        int divide = check.make(6, 1, 0, 0, check.make(3, 3, 5, 0));
        int wide = check.self(6);
        check.due("no PLACES ahead of it", check.constant(6, 5) + 1, check.self(4));
        int valued = check.make(18, 0, check.type(4, 4), 0, check.self(4), -1, no, check.self(4));
        check.comes("INIT with its value", valued, 700, 700);
        check.comes("another value", valued, 800, 800);
        check.comes("of J", check.make(18, 0, check.type(6, 6), 0, wide, -1, no, wide), 1L << 40, 1L << 40);
        int bad = check.make(18, 0, type, 0, check.make(6, 0, 0, 1, divide), -1, no, -1, mark(log, 9), -1, -1, -1);
        check.fails("an INIT that THROWS", bad, 3);
        check.due("the next isn't called", house.element(row, 0, 0), 123);
    }

    private static void loopRounds() {
        HandleHouse house = check.sentence("Then, again and again, clause by clause: STEP is called, and its VARIABLE gets the RESULT; TEST is called:"
            + " if it came to 0, END is called, and that is the RESULT (without one b's ZERO).");
        int row = check.row(15, 1);
        int log = log(row);
        int type = check.type(5, 5);
        int inc = check.make(6, 1, 0, 1, check.make(3, 0, 5, 0));
        int less = check.make(3, 11, 5, 0);
        int yes = check.constant(1, 1);
        int step = check.make(8, 0, 0, 0, inc, mark(log, 1));
        int h = check.make(18, 0, type, 0, check.constant(5, 0), step, less, check.self(5), -1, mark(log, 2),
            check.make(9, 0, 0, 0, mark(log, 3), yes), check.constant(5, 99));
        check.comes("until the first TEST comes to 0", h, 3, 3);
        check.due("clause by clause", house.element(row, 0, 0), 1231231);
        check.comes("0 at once: STEP was called once", h, 1, 0);
        check.comes("without END", check.make(18, 0, type, 0, -1, inc, less, -1), 0, 3);
        check.due("STEPS", house.told(1), 1 + 3 * (2 + 1));
        check.comesTo("without END of O", 0, 0, check.make(18, 0, check.type(7), 0, -1, -1, check.constant(1, 0), -1));
        int second = check.make(18, 0, type, 0, -1, inc, yes, -1, -1, -1, less, inc);
        check.comes("the second clause's END, with the VARIABLES", second, 5, 4);
        int seen = check.make(18, 0, type, 0, check.constant(5, 5), inc, -1, -1, -1, check.self(5), check.constant(1, 0),
            check.make(4, 0, check.type(0, 5), 0, check.self(5)));
        check.comes("a STEP sees the VARIABLES that changed ahead of it", seen, 6, 0);
        int both = check.make(18, 0, type, 0, check.constant(5, 70), -1, check.constant(1, 0), check.make(3, 1, 5, 0), check.constant(5, 8), -1, -1, -1);
        check.comes("END with the VARIABLES of the clauses behind it", both, 62, 1000);
        check.due("no end: OUT OF FUEL", check.run(check.make(18, 0, type, 0, -1, -1, yes, -1), 777, 0), 2);
        check.due("its FUEL", house.told(1), 777);
    }

    private static void thrower() {
        HandleHouse house = check.sentence("19 THROW, kinds a, b, b BELOW E: (b)a: NULL: ERROR 1; else that is thrown.");
        house.newClass(7, 0);
        house.newClass(19, 0);
        house.newClass(21, 0);
        check.hasType("E", check.make(19, 5, 19, 0), 5, 19);
        check.hasType("BELOW E", check.make(19, 17, 22, 0), 17, 22);
        check.hasType("RESULT V", check.make(19, 0, 21, 0), 0, 21);
        for (int b : new int[] {-1, 0, 5, 7, 18, 20, 23, 32}) {
            check.refused("b " + b, 1, 19, 5, b, 0);
        }
        for (int a : new int[] {-1, 23, 32}) {
            check.refused("a " + a, 1, 19, a, 19, 0);
        }
        check.fails("NULL", check.make(19, 5, 22, 0), 1, -1);
        int lower = check.instance(22);
        check.due("that is thrown", check.run(check.make(19, 5, 21, 0), 9, lower), 1);
        check.due("as it is", house.told(3), 22);
        check.due("the same one", house.keep(), lower + 1);
        check.comes("SAME", check.make(32, 0, 0, 0), 1, lower, lower + 1);
    }

    private static void newRow() {
        HandleHouse house = check.sentence("20 NEW ROW a: (I)a of ZEROS; below 0: ERROR 4 (ahead of FULL).");
        for (int kind = 15; kind <= 17; kind++) {
            int h = check.make(20, kind, 0, 0);
            check.hasType("NEW ROW " + kind, h, kind, 5);
            int row = check.row(kind, 2);
            check.due("ZERO", house.element(row, 0, 0) + house.element(row, 1, 0), 0);
            check.due("its kind", house.element(row, 1, 1), kind == 17 ? 0 : kind - 10);
            check.comesTo("0 ELEMENTS", kind, 0, h, 0);
            check.fails("-1", h, 4, -1);
            check.fails("the least", h, 4, Integer.MIN_VALUE);
        }
        check.due("none of those was made", house.told(4), 6);
        int loop = check.make(18, 0, check.type(0), 0, -1, check.make(6, 0, 0, 0, check.make(20, 15, 0, 0)), check.constant(1, 1), -1);
        check.due("until it is FULL", check.run(loop, 10000), 4);
        check.due("1000", house.told(4), 1000);
        check.fails("-1 ahead of FULL", check.make(20, 16, 0, 0), 4, -1);
        check.due("0 is FULL", check.run(check.make(20, 16, 0, 0), 9, 0), 4);
    }

    private static void size() {
        check.sentence("21 SIZE a: (a)I.");
        for (int kind = 15; kind <= 17; kind++) {
            int h = check.make(21, kind, 0, 0);
            check.hasType("SIZE", h, 5, kind);
            check.comes("0", h, 0, check.row(kind, 0));
            check.comes("100", h, 100, check.row(kind, 100));
            check.fails("NULL", h, 1, -1);
        }
    }

    private static void elementForms() {
        check.sentence("22 GET a: (a I)e, 23 SET a: (a I e)V, 24 SWAP a: (a I e)e, comes to the one that was there, 25 TRY a: (a I e e)Z, if"
            + " the ELEMENT is the first it becomes the second, 26 ADD a: (a I e)e, of 15, 16 alone, it is added (wraps), comes to the one that was there:");
        for (int row = 15; row <= 17; row++) {
            int e = row - 10;
            check.hasType("GET", check.make(22, row, 0, 0), e, row, 5);
            check.hasType("SET", check.make(23, row, 0, 0), 0, row, 5, e);
            check.hasType("SWAP", check.make(24, row, 0, 0), e, row, 5, e);
            check.hasType("TRY", check.make(25, row, 0, 0), 1, row, 5, e, e);
            if (row < 17) {
                check.hasType("ADD", check.make(26, row, 0, 0), e, row, 5, e);
            }
        }
        check.refused("ADD of 17", 1, 26, 17, 0, 0);
        for (int form = 20; form <= 26; form++) {
            for (int kind : new int[] {-1, 0, 7, 14, 18, 20}) {
                check.refused("FORM " + form + " of " + kind, 1, form, kind, 0, 0);
            }
            check.refused("FORM " + form + " with a PART", 1, form, 15, 0, 0, 0);
        }
    }

    private static void elementChanges() {
        HandleHouse house = check.sentence("if the ELEMENT is the first it becomes the second,");
        for (int kind = 15; kind <= 16; kind++) {
            int row = check.row(kind, 3);
            check.comes("SET", check.make(23, kind, 0, 0), 0, row, 2, 7);
            check.comes("GET", check.make(22, kind, 0, 0), 7, row, 2);
            check.comes("SWAP", check.make(24, kind, 0, 0), 7, row, 2, 8);
            check.comes("TRY of another", check.make(25, kind, 0, 0), 0, row, 2, 7, 9);
            check.comes("it stays", check.make(22, kind, 0, 0), 8, row, 2);
            check.comes("TRY", check.make(25, kind, 0, 0), 1, row, 2, 8, 9);
            check.comes("it became", check.make(22, kind, 0, 0), 9, row, 2);
            check.due("the others stay", house.element(row, 0, 0) + house.element(row, 1, 0), 0);
        }
        int objects = check.row(17, 1);
        int attempt = check.make(25, 17, 0, 0);
        check.comes("TRY of NULL", attempt, 1, objects, 0, -1, check.box(5, 0));
        check.comes("a box of 0 isn't NULL", attempt, 0, objects, 0, -1, -1);
        check.comes("nor a box of J", attempt, 0, objects, 0, check.box(6, 0), -1);
        check.comes("boxes of one number are the same", attempt, 1, objects, 0, check.box(5, 0), objects);
        check.comesTo("SWAP of the ROW within itself", 17, 1, check.make(24, 17, 0, 0), objects, 0, -1);
        check.comesTo("GET of NULL", 0, 0, check.make(22, 17, 0, 0), objects, 0);
        check.comes("SET where NULL was", check.make(23, 17, 0, 0), 0, objects, 0, objects);
        check.comesTo("SET where an OBJECT was: no RESULT", 0, 0, check.make(23, 17, 0, 0), objects, 0, -1);
        check.due("nothing to keep", house.keep(), -1);
    }

    private static void elementErrors() {
        check.sentence("a ROW a, its ELEMENTS e: NULL: ERROR 1; no such ELEMENT: ERROR 6.");
        for (int kind = 15; kind <= 17; kind++) {
            check.again();
            int row = check.row(kind, 2);
            int none = check.row(kind, 0);
            long other = kind == 17 ? -1 : 5;
            for (int form = 22; form <= (kind == 17 ? 25 : 26); form++) {
                int h = check.make(form, kind, 0, 0);
                long[] values = form == 22 ? new long[2] : form == 25 ? new long[4] : new long[3];
                java.util.Arrays.fill(values, other);
                long[][] wrong = {{-1, 0, 1}, {-1, 9, 1}, {row, -1, 6}, {row, 2, 6}, {row, Integer.MIN_VALUE, 6},
                    {row, Integer.MAX_VALUE, 6}, {none, 0, 6}};
                for (long[] one : wrong) {
                    values[0] = one[0];
                    values[1] = one[1];
                    check.fails("FORM " + form + " of " + one[0] + ", " + one[1], h, one[2], values);
                }
                values[0] = row;
                values[1] = 1;
                check.due("the last ELEMENT", check.run(h, 9, values), 0);
            }
        }
    }

    private static void addingElements() {
        HandleHouse house = check.sentence("26 ADD a: (a I e)e, of 15, 16 alone, it is added (wraps), comes to the one that was there:");
        int ints = check.row(15, 1);
        int longs = check.row(16, 1);
        check.comes("I", check.make(26, 15, 0, 0), 0, ints, 0, Integer.MAX_VALUE);
        check.comes("the one that was there", check.make(26, 15, 0, 0), Integer.MAX_VALUE, ints, 0, 1);
        check.due("it wraps", house.element(ints, 0, 0), Integer.MIN_VALUE);
        check.comes("down", check.make(26, 15, 0, 0), Integer.MIN_VALUE, ints, 0, -1);
        check.due("it wraps", house.element(ints, 0, 0), Integer.MAX_VALUE);
        check.comes("J", check.make(26, 16, 0, 0), 0, longs, 0, Long.MIN_VALUE);
        check.comes("the one that was there", check.make(26, 16, 0, 0), Long.MIN_VALUE, longs, 0, -1);
        check.due("it wraps", house.element(longs, 0, 0), Long.MAX_VALUE);
    }

    private static void invoke() {
        HandleHouse house = check.sentence("27 INVOKE TYPE b: (H, b's PLACES) b's RESULT: NULL: ERROR 1; its HANDLE is of another TYPE: ERROR 5; it is"
            + " called with the others.");
        int minus = check.make(3, 1, 5, 0);
        int own = house.handle(minus, 0);
        int h = check.make(27, 0, own, 0);
        check.hasType("INVOKE", h, 5, 18, 5, 5);
        int object = check.object(minus);
        check.comes("called with the others", h, 5, object, 8, 3);
        check.due("STEPS", house.told(1), 2);
        check.fails("NULL", h, 1, -1, 8, 3);
        check.fails("another RESULT", h, 5, check.object(check.make(3, 11, 5, 0)), 8, 3);
        check.fails("a PLACE fewer", h, 5, check.object(check.self(5)), 8, 3);
        check.due("it isn't called", house.told(1), 1);
        check.comes("of no PLACES", check.make(27, 0, check.type(6), 0), 4, check.object(check.constant(6, 4)));
        check.hasType("of nine PLACES", check.make(27, 0, check.type(0, 1, 1, 1, 1, 1, 1, 1, 1, 1), 0), 0, 18, 1, 1, 1, 1, 1, 1, 1, 1, 1);
        check.refused("of ten PLACES: eleven", 4, 27, 0, check.type(0, 1, 1, 1, 1, 1, 1, 1, 1, 1, 1), 0);
        check.refused("TYPE -1", 1, 27, 0, -1, 0);
        check.refused("the next TYPE", 1, 27, 0, house.told(6), 0);
    }

    private static void invokeAs() {
        HandleHouse house = check.sentence("28 INVOKE AS b: likewise, but one of another TYPE is called as AS of TYPE b does (no STEP of its own); ERROR 5"
            + " if it MAY not (ahead of the values' ERRORS).");
        int minus = check.make(3, 1, 5, 0);
        int h = check.make(28, 0, check.type(7, 7, 2), 0);
        int object = check.object(minus);
        check.hasType("INVOKE AS", h, 7, 18, 7, 2);
        check.comesTo("as AS does", 13, 5, h, object, check.box(5, 8), 3);
        check.due("no STEP of its own", house.told(1), 2);
        check.fails("NULL", h, 1, -1, -1, 3);
        check.fails("a value's ERROR", h, 1, object, -1, 3);
        check.fails("a value's ERROR", h, 2, object, check.box(6, 8), 3);
        check.due("it isn't called", house.told(1), 1);
        check.comes("one of the TYPE itself", check.make(28, 0, house.handle(minus, 0), 0), 5, object, 8, 3);
        int narrow = check.make(28, 0, check.type(3, 7, 2), 0);
        check.fails("the RESULT MAY not, ahead of the value", narrow, 5, object, -1, 3);
        check.fails("a PLACE MAY not, ahead of the value", check.make(28, 0, check.type(5, 7, 6), 0), 5, object, -1, 3);
        check.fails("a PLACE fewer, ahead of the value", check.make(28, 0, check.type(5, 7), 0), 5, object, -1);
        check.comesTo("a RESULT to V", 0, 0, check.make(28, 0, check.type(0, 5, 5), 0), object, 8, 3);
        check.comesTo("V to a RESULT", 0, 0, check.make(28, 0, check.type(6), 0), check.object(check.empty(0)));
        check.fails("the RESULT's ERROR", check.make(28, 0, check.type(15, 7), 0), 2, check.object(check.self(7)), object);
        check.refused("of ten PLACES: eleven", 4, 28, 0, check.type(0, 1, 1, 1, 1, 1, 1, 1, 1, 1, 1), 0);
    }

    private static void target() {
        HandleHouse house = check.sentence("29 TARGET a: of its TYPE: what it is aimed at is called.");
        int minus = check.make(3, 1, 5, 0);
        check.refused("none", 1, 29, 0, 0, 0);
        house.target(minus);
        int h = check.make(29, 0, 0, 0);
        check.hasType("of its TYPE", h, 5, 5, 5);
        check.comes("called", h, 5, 8, 3);
        check.due("STEPS", house.told(1), 2);
        house.aim(0, check.make(3, 0, 5, 0));
        check.comes("aimed anew", h, 11, 8, 3);
        check.due("one handle", check.make(29, 0, 0, 0), h);
        check.refused("TARGET 1", 1, 29, 1, 0, 0);
        check.refused("TARGET -1", 1, 29, -1, 0, 0);
    }

    private static void point() {
        HandleHouse house = check.sentence("30 POINT a, h, f, of one TYPE: h is called, f if the POINT is off.");
        int minus = check.make(3, 1, 5, 0);
        int plus = check.make(3, 0, 5, 0);
        check.refused("none", 1, 30, 0, 0, 0, minus, plus);
        house.point();
        house.point();
        int h = check.make(30, 0, 0, 0, minus, plus);
        check.hasType("POINT", h, 5, 5, 5);
        check.comes("on", h, 5, 8, 3);
        house.off(1);
        check.comes("another is off", h, 5, 8, 3);
        house.off(0);
        check.comes("off", h, 11, 8, 3);
        check.due("STEPS", house.told(1), 2);
        check.refused("two TYPES", 3, 30, 0, 0, 0, minus, check.self(5));
        check.refused("POINT 2", 1, 30, 2, 0, 0, minus, plus);
        check.refused("POINT -1", 1, 30, -1, 0, 0, minus, plus);
        check.refused("one PART", 1, 30, 0, 0, 0, minus);
        int or = check.make(3, 6, 5, 0);
        check.due("no PLACES behind it", check.constant(5, 1), or + 1);
        check.comes("off, the values of the one that is called", check.make(30, 0, 0, 0, plus, or), 0x61, 1, 0x60);
        house.point();
        check.comes("on, the values of the one that is called", check.make(30, 2, 0, 0, or, plus), 0x73, 3, 0x70);
    }

    private static void is() {
        HandleHouse house = check.sentence("31 IS, a REFERENCE a: (O)Z: 1 if it is an OBJECT that is a value of a.");
        house.newClass(7, 0);
        int instance = check.instance(20);
        for (int kind = 7; kind <= 20; kind++) {
            int h = check.make(31, kind, 0, 0);
            check.hasType("IS " + kind, h, 1, 7);
            check.comes("NULL is no OBJECT", h, 0, -1);
            check.comes("an INSTANCE", h, kind == 7 || kind == 20 ? 1 : 0, instance);
        }
        for (int kind : new int[] {-1, 0, 1, 6, 21, 32}) {
            check.refused("IS " + kind, 1, 31, kind, 0, 0);
        }
    }

    private static void same() {
        HandleHouse house = check.sentence("32 SAME: (O O)Z.");
        int h = check.make(32, 9, 9, 9);
        check.hasType("SAME", h, 1, 7, 7);
        int row = check.row(15, 1);
        check.comes("NULL and NULL", h, 1, -1, -1);
        check.comes("NULL and an OBJECT", h, 0, -1, row);
        check.comes("an OBJECT and NULL", h, 0, row, -1);
        check.comes("one OBJECT by two VALUES", h, 1, row, check.kept(check.self(15), row));
        check.comes("two", h, 0, row, check.row(15, 1));
        check.refused("with a PART", 1, 32, 0, 0, 0, h);
        check.due("told", house.told(0), 0);
    }

    private static void code() {
        HandleHouse house = check.sentence("33 CODE: (E)I: NULL: ERROR 1; of an INSTANCE 0.");
        house.newClass(19, 0);
        int h = check.make(33, 9, 9, 9);
        check.hasType("CODE", h, 5, 19);
        check.fails("NULL", h, 1, -1);
        int first = check.instance(20);
        int second = check.kept(house.find(20, 20, 0, check.type(0), 3));
        check.comes("an INSTANCE", h, 0, first);
        check.comes("another INSTANCE", h, 0, second);
        check.comes("an ERROR", h, 4, check.kept(check.make(20, 15, 0, 0), -1));
    }

    private static void empty() {
        HandleHouse house = check.sentence("34 EMPTY TYPE b: b's ZERO.");
        check.hasType("EMPTY", check.empty(6, 5, 7), 6, 5, 7);
        check.comesTo("of J", 0, 0, check.empty(6, 5, 7), 9, -1);
        check.comesTo("of O", 0, 0, check.empty(7, 5), 9);
        check.comesTo("of V", 0, 0, check.empty(0, 5), 9);
        check.due("STEPS", house.told(1), 1);
        check.refused("TYPE -1", 1, 34, 0, -1, 0);
        check.refused("the next TYPE", 1, 34, 0, house.told(6), 0);
    }

    private static void foundAlone() {
        HandleHouse house = check.sentence("Found alone: 35 FIELD a, WAY b, kind c; 36 VIRTUAL METHOD a, kind b; 37 SPECIAL METHOD a, kind b; 38 NEW by METHOD a.");
        house.newClass(7, 0);
        int method = check.empty(5, 20);
        house.field(20, 1, 5, false, 3);
        house.method(20, 1, method, false, 3);
        house.method(20, 0, check.empty(0, 20), false, 3);
        int type = check.type(5);
        int[] found = {house.find(20, 20, 1, 0, 6), house.find(20, 20, 1, type, 1), house.find(20, 20, 1, type, 2), house.find(20, 20, 0, check.type(0), 3)};
        int[][] due = {{35, 0, 6, 20}, {36, 1, 20, 0}, {37, 1, 20, 0}, {38, 2, 0, 0}};
        for (int i = 0; i < found.length; i++) {
            check.due("FORM", house.handle(found[i], 1), due[i][0]);
            check.due("a", house.handle(found[i], 2), due[i][1]);
            check.due("b", house.handle(found[i], 3), due[i][2]);
            check.due("c", house.constant(found[i]), due[i][3]);
            check.due("PARTS", house.handle(found[i], 4), 0);
            check.refused("by make()", 1, due[i][0], due[i][1], due[i][2], due[i][3]);
        }
    }

    private static void simplerOnes() {
        HandleHouse house = check.sentence("SIMPLER: DROP of no PLACES, MOVE to h's own TYPE with each PLACE at its own, AS and FORCED to h's own TYPE,"
            + " RESULT by a SELF, COLLECT by a SELF are h.");
        int less = check.make(3, 11, 5, 0);
        int own = house.handle(less, 0);
        int none = check.type(7);
        int ofZ = check.self(1);
        int ofI = check.self(5);
        int handles = house.told(7);
        int types = house.told(6);
        check.due("DROP at 0", check.make(4, 0, none, 0, less), less);
        check.due("DROP at 2", check.make(4, 2, none, 0, less), less);
        check.due("MOVE", check.make(5, 0, own, 0, less, 0, 1), less);
        check.due("AS", check.make(12, 0, own, 0, less), less);
        check.due("FORCED", check.make(13, 0, own, 0, less), less);
        check.due("RESULT", check.make(9, 0, 0, 0, less, ofZ), less);
        check.due("COLLECT at 0", check.make(7, 0, 0, 0, less, ofI), less);
        check.due("COLLECT at 1", check.make(7, 1, 0, 0, less, ofI), less);
        check.due("no handle was made", house.told(7), handles);
        check.due("no TYPE was made", house.told(6), types);
        check.due("not refused", house.refused(), 0);
        check.refused("DROP of no PLACES at 3", 2, 4, 3, none, 0, less);
        check.refused("RESULT by a SELF of another kind", 3, 9, 0, 0, 0, less, ofI);
        check.refused("COLLECT by a SELF of another kind", 3, 7, 0, 0, 0, less, ofZ);
        check.refused("COLLECT by a SELF at 2", 2, 7, 2, 0, 0, less, ofI);
        check.due("FOLD by a SELF isn't simpler", house.handle(check.make(8, 0, 0, 0, less, ofI), 1), 8);
        check.due("MOVE to another order isn't", house.handle(check.make(5, 0, own, 0, less, 1, 0), 1), 5);
        check.due("MOVE of the first alone isn't", house.handle(check.make(5, 0, own, 0, less, 1, 1), 1), 5);
        check.due("MOVE of the last alone isn't", house.handle(check.make(5, 0, own, 0, less, 0, 0), 1), 5);
        check.due("MOVE to another TYPE isn't", house.handle(check.make(5, 0, check.type(1, 5, 5, 5), 0, less, 0, 1), 1), 5);
    }

    private static void simplerMoves() {
        HandleHouse house = check.sentence("MOVE of a MOVE is one MOVE of that one's h (which may be h of that again).");
        int get = check.make(22, 15, 0, 0);
        int own = house.handle(get, 0);
        int turned = check.type(5, 5, 15);
        int swapped = check.make(5, 0, turned, 0, get, 1, 0);
        check.due("back again: h", check.make(5, 0, own, 0, swapped, 1, 0), get);
        int wide = check.type(5, 7, 5, 6, 15);
        int joined = check.make(5, 0, wide, 0, swapped, 1, 3);
        int[] due = {5, 0, wide, 3, get, 3, 1};
        for (int i = 0; i < due.length; i++) {
            check.due("what " + (i + 1), house.handle(joined, i + 1), due[i]);
        }
        check.due("the same by one MOVE", check.make(5, 0, wide, 0, get, 3, 1), joined);
        int third = check.make(5, 0, turned, 0, check.make(5, 0, check.type(5, 15, 15, 5), 0, swapped, 2, 1), 1, 1, 0);
        check.due("of a third", third, swapped);
        int back = check.make(5, 0, own, 0, check.make(5, 0, check.type(5, 15, 15, 5), 0, get, 0, 2), 0, 0, 1);
        check.due("of a wider one, back to h", back, get);
        int swap = check.make(24, 15, 0, 0);
        int third3 = check.make(5, 0, check.type(5, 5, 5, 15), 0, swap, 2, 1, 0);
        check.due("of a later one, back to h", check.make(5, 0, house.handle(swap, 0), 0, third3, 2, 1, 0), swap);
        int one = check.make(5, 0, check.type(5, 15, 5), 0, third3, 1, 1, 0);
        int[] parts = {swap, 0, 1, 1};
        for (int i = 0; i < parts.length; i++) {
            check.due("PART " + i + " of one MOVE of a later one", house.handle(one, 5 + i), parts[i]);
        }
    }

    private static void handleNumbers() {
        HandleHouse house = check.sentence("HANDLES are numbered from 0 on as they are first made, 500 at most;");
        check.due("the first", check.self(5), 0);
        check.due("the second", check.self(6), 1);
        check.due("the first again", check.self(5), 0);
        check.fillHandles(499);
        check.due("499", house.told(7), 499);
        check.due("the 500th", check.self(7), 499);
        check.refused("the 501st", 5, 0, 6, 0, 12345);
        check.due("an old one", check.self(7), 499);
        check.due("and a simpler one", check.make(12, 0, house.handle(499, 0), 0, 499), 499);
    }

    private static void oneHandle() {
        HandleHouse house = check.sentence("of one FORM with the same a, b, c and PARTS there is one.");
        int plus = check.make(3, 0, 5, 0);
        int minus = check.make(3, 1, 5, 0);
        int bound = check.make(6, 0, 0, 3, plus);
        check.due("the same", check.make(6, 0, 0, 3, plus), bound);
        check.due("another a", check.make(6, 1, 0, 3, plus), bound + 1);
        check.due("another c", check.make(6, 0, 0, 3 - (1L << 31) + 1, plus), bound + 2);
        check.due("another PART", check.make(6, 0, 0, 3, minus), bound + 3);
        check.due("another b", check.make(3, 0, 6, 0), bound + 4);
        check.due("two PARTS", check.make(17, 0, 0, 0, plus, minus), bound + 5);
        check.due("another order", check.make(17, 0, 0, 0, minus, plus), bound + 6);
        check.due("one PART more", check.make(17, 0, 0, 0, plus, minus, plus), bound + 7);
        check.due("another FORM", check.make(1, 0, 0, 0, plus), bound + 8);
        check.due("how many", house.told(7), bound + 9);
        int no = check.constant(1, 0);
        int loop = check.make(18, 0, check.type(5), 0, -1, -1, no, -1);
        check.due("PARTS more that are -1", check.make(18, 0, check.type(5), 0, -1, -1, no, -1, -1, -1, -1, -1), loop + 1);
        check.due("without them", check.make(18, 0, check.type(5), 0, -1, -1, no, -1), loop);
    }

    private static void refusalOne() {
        HandleHouse house = check.sentence("1 no such FORM (35 to 38 too), HANDLE, TYPE, kind (where a kind of some sort is wanted one of that sort), VALUE,"
            + " TARGET, POINT, OPERATION, CLASS, WAY, or not as many PARTS as told;");
        int self = check.self(5);
        for (int form : new int[] {Integer.MIN_VALUE, -1, 35, 36, 37, 38, 39, Integer.MAX_VALUE}) {
            check.refused("FORM " + form, 1, form, 0, 0, 0);
        }
        check.refused("HANDLE", 1, 1, 0, 0, 0, self + 1);
        check.refused("TYPE", 1, 34, 0, 1, 0);
        check.refused("kind", 1, 2, 20, 0, 0);
        check.refused("a kind of that sort, a ROW", 1, 20, 7, 0, 0);
        check.refused("a kind of that sort, a REFERENCE", 1, 31, 6, 0, 0);
        check.refused("a kind of that sort, BELOW E", 1, 19, 5, 7, 0);
        check.refused("a kind of that sort, I or J", 1, 3, 0, 4, 0);
        check.refused("a kind of that sort, 15 or 16", 1, 26, 17, 0, 0);
        check.refused("VALUE", 1, 0, 7, 0, 0);
        check.refused("TARGET", 1, 29, 0, 0, 0);
        check.refused("POINT", 1, 30, 0, 0, 0, self, self);
        check.refused("OPERATION", 1, 3, 13, 5, 0);
        house.newClass(7, 0);
        int[][] finds = {{19, 20, 0, 0, 0}, {20, 19, 0, 0, 0}, {21, 20, 0, 0, 4}, {20, 21, 0, 0, 4}, {20, 20, 0, 0, -1}, {20, 20, 0, 0, 9}, {20, 20, 0, 99, 0}};
        for (int[] find : finds) {
            check.due("CLASS, WAY, TYPE", house.find(find[0], find[1], find[2], find[3], find[4]), -1);
            check.due("1", house.refused(), 1);
        }
        for (int kind = 21; kind < 32; kind++) {
            house.newClass(19, 0);
        }
        for (int form : new int[] {0, 2, 15, 19, 20, 21, 22, 23, 24, 25, 26, 31}) {
            int[] parts = form == 15 ? new int[] {self, self} : new int[0];
            check.refused("kind 32 when there are all CLASSES, FORM " + form, 1, form, 32, 19, -1, parts);
        }
        check.refused("b 32", 1, 19, 5, 32, 0);
        check.refused("b 32 on OPERATION", 1, 3, 0, 32, 0);
        for (int form : new int[] {0, 2, 3, 19, 20, 21, 22, 23, 24, 25, 31, 32, 33, 34}) {
            check.refused("FORM " + form + " has no PARTS", 1, form, form == 3 ? 0 : form == 19 ? 5 : 17, form == 19 ? 19 : form == 3 ? 5 : 0, -1, self);
        }
        int[] none = {};
        for (int form : new int[] {1, 4, 6, 7, 8, 9, 10, 11, 12, 13, 14, 15, 16, 17, 18, 30}) {
            check.refused("FORM " + form + " has PARTS", 1, form, 15, 0, 0, none);
        }
    }

    private static void refusalTwo() {
        check.sentence("2 a place or number that is not as told (a place; b of SPREAD beyond h's PLACES, of GATHER 0 .. 10; a number of MOVE; a"
            + " CONSTANT's c out of bounds; a name; RIGHTS);");
        HandleHouse house = check.house;
        int less = check.make(3, 11, 5, 0);
        int own = house.handle(less, 0);
        check.refused("a place of DROP", 2, 4, 3, own, 0, less);
        check.refused("a place of BIND", 2, 6, 2, 0, 0, less);
        check.refused("a place of COLLECT", 2, 7, 2, 0, 0, less, check.constant(5, 1));
        check.refused("a place of FOLD", 2, 8, 2, 0, 0, less, check.constant(5, 1));
        check.refused("b of SPREAD", 2, 10, 15, 3, 0, less);
        check.refused("b of GATHER", 2, 11, 0, 11, 0, check.self(15));
        check.refused("a number of MOVE", 2, 5, 0, own, 0, less, 0, 2);
        check.refused("a CONSTANT's c", 2, 0, 1, 0, 2);
        house.newClass(7, 0);
        int[] names = {Integer.MIN_VALUE, -1, 100, Integer.MAX_VALUE};
        int[] rights = {Integer.MIN_VALUE, -1, 4, Integer.MAX_VALUE};
        for (int i = 0; i < 4; i++) {
            check.due("a name of field()", house.field(20, names[i], 5, true, 3), -1);
            check.due("2", house.refused(), 2);
            check.due("a name of method()", house.method(20, names[i], less, true, 3), -1);
            check.due("2", house.refused(), 2);
            check.due("a name of find()", house.find(20, 20, names[i], 0, 4), -1);
            check.due("2", house.refused(), 2);
            check.due("RIGHTS of field()", house.field(20, 1, 5, true, rights[i]), -1);
            check.due("2", house.refused(), 2);
            check.due("RIGHTS of method()", house.method(20, 1, less, true, rights[i]), -1);
            check.due("2", house.refused(), 2);
        }
        check.due("the name 0, RIGHTS 0", house.field(20, 0, 5, true, 0), 0);
        check.due("the name 99, RIGHTS 3", house.method(20, 99, less, true, 3), 1);
        check.due("found", house.find(20, 20, 99, own, 0), less);
    }

    private static void refusalThree() {
        check.sentence("3 kinds, or how many PLACES there are, that are not as told (also a VALUE of another kind, a LOOP without TEST, or END without one);");
        int less = check.make(3, 11, 5, 0);
        int row = check.row(15, 1);
        int no = check.constant(1, 0);
        check.refused("kinds", 3, 9, 0, 0, 0, less, less);
        check.refused("how many PLACES", 3, 9, 0, 0, 0, less, no);
        check.refused("a VALUE of another kind for CONSTANT", 3, 0, 16, 0, row);
        check.refused("a VALUE of another kind for BIND", 3, 6, 0, 0, row, check.make(21, 16, 0, 0));
        check.refused("a LOOP without TEST", 3, 18, 0, check.type(1), 0, no, -1, -1, -1);
        check.refused("END without one", 3, 18, 0, check.type(1), 0, -1, -1, no, -1, -1, -1, -1, no);
        HandleHouse house = check.house;
        house.newClass(7, 0);
        check.due("method()", house.method(20, 1, less, false, 3), -1);
        check.due("3", house.refused(), 3);
    }

    private static void refusalFour() {
        HandleHouse house = check.sentence("4 a TYPE of more than 10 PLACES, or no room for it;");
        int six = check.empty(0, 1, 1, 1, 1, 1, 1);
        int five = check.empty(0, 1, 1, 1, 1, 1);
        int four = check.type(0, 1, 1, 1, 1);
        check.hasType("DROP to 10", check.make(4, 0, four, 0, six), 0, 1, 1, 1, 1, 1, 1, 1, 1, 1, 1);
        check.refused("DROP to 11", 4, 4, 0, house.handle(five, 0), 0, six);
        check.refused("COLLECT to 11", 4, 7, 0, 0, 0, six, five);
        int ten = check.empty(0, 5, 5, 5, 5, 5, 5, 5, 5, 5, 5);
        check.refused("SPREAD to 11", 4, 10, 15, 0, 0, ten);
        check.refused("INVOKE to 11", 4, 27, 0, house.handle(ten, 0), 0);
        check.refused("GATHER to 11", 4, 11, 0, 10, 0, check.empty(0, 5, 15));
        check.fillTypes(300);
        check.refused("no room", 4, 2, 19, 0, 0);
        check.hasType("a TYPE that there is", check.make(34, 0, four, 0), 0, 1, 1, 1, 1);
        check.due("made", house.refused(), 0);
        check.refused("also to 11", 4, 10, 15, 0, 0, ten);
    }

    private static void refusalFive() {
        HandleHouse house = check.sentence("5 no room for the HANDLE (or member).");
        int plus = check.make(3, 0, 5, 0);
        house.newClass(7, 0);
        check.fillHandles(500);
        check.due("500", house.told(7), 500);
        check.refused("a HANDLE", 5, 3, 1, 5, 0);
        check.refused("a HANDLE of a new TYPE", 5, 2, 17, 0, 0);
        for (int i = 0; i < 100; i++) {
            check.due("member " + i, house.field(20, i, 5, true, 3), i);
        }
        check.due("a FIELD", house.field(20, 1, 5, true, 3), -1);
        check.due("5", house.refused(), 5);
        check.due("a METHOD", house.method(20, 1, plus, true, 3), -1);
        check.due("5", house.refused(), 5);
        check.due("a found HANDLE", house.find(20, 20, 1, 0, 4), -1);
        check.due("5", house.refused(), 5);
    }

    private static void refusalOrder() {
        HandleHouse house = check.sentence("7. REFUSALS, of make(), method(), find(), asked in this order:");
        int less = check.make(3, 11, 5, 0);
        int own = house.handle(less, 0);
        int ten = check.empty(1, 5, 5, 5, 5, 5, 5, 5, 5, 5, 5);
        check.refused("1 ahead of 2: no TYPE, no place", 1, 4, 9, 99, 0, less);
        check.refused("1 ahead of 2: no VALUE is asked ahead of no place of FOLD", 1, 8, 9, 0, 0, less, 99);
        check.refused("2 ahead of 3: MOVE", 2, 5, 0, check.type(5, 6), 0, less, 0, 1);
        check.refused("2 ahead of 3: SPREAD", 2, 10, 16, 3, 0, less);
        check.refused("2 ahead of 3: GATHER", 2, 11, 0, 11, 0, less);
        check.refused("2 ahead of 3: COLLECT", 2, 7, 2, 0, 0, less, ten);
        check.refused("3 ahead of 4: COLLECT", 3, 7, 0, 0, 0, ten, ten);
        check.refused("3 ahead of 4: SPREAD", 3, 10, 16, 1, 0, ten);
        check.refused("2 ahead of 4: DROP", 2, 4, 11, own, 0, ten);
        house = check.again();
        less = check.make(3, 11, 5, 0);
        check.fillTypes(299);
        check.self(19);
        check.due("300 TYPES", house.told(6), 300);
        check.fillHandles(500);
        check.due("500 HANDLES", house.told(7), 500);
        check.refused("3 ahead of 4 and 5", 3, 9, 0, 0, 0, less, less);
        check.refused("4 ahead of 5", 4, 2, 17, 0, 0);
        check.refused("5", 5, 3, 12, 5, 0);
        house.newClass(7, 0);
        house.newClass(7, 1);
        house.field(20, 1, 18, true, 1);
        int[][] finds = {{19, 20, 100, 0, 4, 1}, {20, 20, 100, 0, 4, 2}, {20, 20, 2, 0, 8, 6}, {21, 20, 1, 0, 8, 3}, {21, 20, 1, 0, 4, 7}, {20, 20, 1, 0, 4, 5}};
        for (int[] find : finds) {
            check.due("find()", house.find(find[0], find[1], find[2], find[3], find[4]), -1);
            check.due("its refusal", house.refused(), find[5]);
        }
        check.due("method() 1 ahead of 2", house.method(19, 100, less, false, 9), -1);
        check.due("1", house.refused(), 1);
        check.due("method() 2 ahead of 3", house.method(20, 100, less, false, 3), -1);
        check.due("2", house.refused(), 2);
    }

    private static void refusedMakesNothing() {
        HandleHouse house = check.sentence("A refused call makes nothing (also no TYPE).");
        int plus = check.make(3, 0, 5, 0);
        house.newClass(7, 0);
        check.fillHandles(500);
        int types = house.told(6);
        check.refused("5: no TYPE", 5, 1, 0, 0, 0, plus);
        check.refused("5: no TYPE", 5, 2, 20, 0, 0);
        int member = house.field(20, 1, 17, true, 3);
        check.due("find() 5", house.find(20, 20, 1, 0, 5), -1);
        check.due("no TYPE", house.told(6), types);
        check.due("not the number of a member", house.told(8), member + 1);
        check.due("field() 2", house.field(20, 1, 5, true, 4), -1);
        check.due("no member", house.told(8), member + 1);
        check.due("the same found by a later call", house.find(20, 20, 1, 0, 5), -1);
    }

    private static void makeTakesRow() {
        HandleHouse house = check.sentence("The HANDLE of a FORM, the row its PARTS: its number. NONE, refused. Takes the row.");
        check.put(5, 5);
        check.due("refused: two PARTS too many", house.make(3, 0, 5, 0), -1);
        check.due("it took the row", house.make(3, 0, 5, 0), 0);
        check.put(0);
        check.due("HANDLE 0 as PART", house.make(1, 0, 0, 0), 1);
        check.due("that took the row", house.make(1, 0, 0, 0), -1);
        check.put(0);
        check.due("no such FORM", house.make(99, 0, 0, 0), -1);
        check.due("took the row", house.make(2, 6, 0, 0), 2);
    }

    private static void notLookedAt() {
        HandleHouse house = check.sentence("(What a FORM doesn't have of a, b, c is not looked at, and is 0 of it.)");
        int same = check.make(32, Integer.MIN_VALUE, Integer.MAX_VALUE, Long.MIN_VALUE);
        check.due("a", house.handle(same, 2), 0);
        check.due("b", house.handle(same, 3), 0);
        check.due("c", house.constant(same), 0);
        check.due("the same one", check.make(32, 0, 0, 0), same);
        house.point();
        int plus = check.make(3, 0, 5, 0);
        house.target(plus);
        int less = check.make(3, 11, 5, 0);
        int code = check.make(33, 0, 0, 0);
        int own = house.handle(plus, 0);
        int wide = check.type(5, 5, 5, 5);
        int as = check.type(6, 2, 2);
        int one = check.constant(5, 1);
        int step = check.self(5);
        // FORM, a, b, c: -1 where the FORM has none; then its PARTS
        int[][] rows = {{0, 5, -1, 9}, {1, -1, -1, -1, plus}, {2, 7, -1, -1}, {3, 2, 6, -1}, {4, 1, wide, -1, plus}, {5, -1, wide, -1, plus, 2, 0},
            {6, 1, -1, 4, plus}, {7, 1, -1, -1, plus, code}, {8, 1, -1, -1, plus, one}, {9, -1, -1, -1, less, check.empty(5, 1)}, {10, 15, 2, -1, plus},
            {11, -1, 3, -1, check.self(15)}, {12, -1, as, -1, plus}, {13, -1, as, -1, plus}, {14, -1, -1, -1, less, plus, plus},
            {15, 19, -1, -1, plus, code}, {16, -1, -1, -1, plus, check.empty(5, 19, 5)}, {17, -1, -1, -1, plus, plus},
            {18, -1, check.type(5, 5), -1, -1, plus, less, step}, {19, 5, 19, -1}, {20, 16, -1, -1}, {21, 16, -1, -1}, {22, 16, -1, -1},
            {23, 16, -1, -1}, {24, 16, -1, -1}, {25, 16, -1, -1}, {26, 16, -1, -1}, {27, -1, own, -1}, {28, -1, own, -1}, {29, 0, -1, -1},
            {30, 0, -1, -1, plus, plus}, {31, 13, -1, -1}, {32, -1, -1, -1}, {33, -1, -1, -1}, {34, -1, wide, -1}};
        for (int[] row : rows) {
            notLookedAt(row);
        }
    }

    private static void notLookedAt(int[] row) {
        HandleHouse house = check.house;
        int[] parts = java.util.Arrays.copyOfRange(row, 4, row.length);
        int h = check.make(row[0], row[1] < 0 ? 77 : row[1], row[2] < 0 ? -78 : row[2], row[3] < 0 ? 79 : row[3], parts);
        String what = "FORM " + row[0];
        check.due(what, house.handle(h, 1), row[0]);
        check.due(what + ": a", house.handle(h, 2), Math.max(row[1], 0));
        check.due(what + ": b", house.handle(h, 3), Math.max(row[2], 0));
        check.due(what + ": c", house.constant(h), Math.max(row[3], 0));
        check.due(what + ": one HANDLE", check.make(row[0], Math.max(row[1], 0), Math.max(row[2], 0), Math.max(row[3], 0), parts), h);
    }

    private static void handleQuestions() {
        HandleHouse house = check.sentence("Of a HANDLE: its TYPE (what 0), FORM (1), a (2), b (3), how many PARTS (4), these (5 and more).");
        int plus = check.make(3, 0, 5, 0);
        int spread = check.make(10, 15, 2, 0, plus);
        int[] due = {1, 10, 15, 2, 1, plus};
        for (int what = 0; what < due.length; what++) {
            check.due("what " + what, house.handle(spread, what), due[what]);
        }
        int[] parts = new int[20];
        java.util.Arrays.fill(parts, plus);
        parts[19] = check.make(3, 1, 5, 0);
        int most = check.make(17, 0, 0, 0, parts);
        check.due("PART 0", house.handle(most, 5), plus);
        check.due("PART 19", house.handle(most, 24), parts[19]);
        check.due("PART 20", house.handle(most, 25), -1);
    }

    private static void noSuchPart() {
        HandleHouse house = check.sentence("NONE when there is none such. (A PART may be -1, too.)");
        int no = check.constant(1, 0);
        int loop = check.make(18, 0, check.type(5), 0, -1, -1, no, -1);
        check.due("a PART that is -1", house.handle(loop, 5), -1);
        check.due("one that isn't", house.handle(loop, 7), no);
        for (int what : new int[] {Integer.MIN_VALUE, -1, 9, 24, 25, Integer.MAX_VALUE}) {
            check.due("what " + what, house.handle(loop, what), -1);
        }
        for (int h : new int[] {Integer.MIN_VALUE, -1, 2, 499, 500, Integer.MAX_VALUE}) {
            for (int what = -1; what <= 6; what++) {
                check.due("HANDLE " + h + ", what " + what, house.handle(h, what), -1);
            }
        }
    }

    private static void constants() {
        HandleHouse house = check.sentence("A HANDLE's c; 0 when there is no such HANDLE.");
        int least = check.constant(6, Long.MIN_VALUE);
        check.due("the least", house.constant(least), Long.MIN_VALUE);
        check.due("NULL", house.constant(check.constant(7, -1)), -1);
        check.due("of one without c", house.constant(check.self(5)), 0);
        for (int h : new int[] {Integer.MIN_VALUE, -1, 3, 500, Integer.MAX_VALUE}) {
            check.due("HANDLE " + h, house.constant(h), 0);
        }
        check.fillHandles(499);
        check.due("the last", house.constant(check.constant(5, -7)), -7);
        check.due("500", house.told(7), 500);
        check.due("of 499", house.constant(499), -7);
        check.due("of 500", house.constant(500), 0);
        check.due("no such HANDLE", house.handle(500, 0), -1);
    }

    private static void refusedTells() {
        HandleHouse house = check.sentence("The refusal of the latest make(), field(), method() or find(); 0 if it was none, or before.");
        check.due("before", house.refused(), 0);
        house.make(99, 0, 0, 0);
        check.due("make()", house.refused(), 1);
        check.due("asked again", house.refused(), 1);
        int self = check.self(5);
        check.due("none", house.refused(), 0);
        house.newClass(7, 0);
        house.field(20, 100, 5, true, 0);
        check.due("field()", house.refused(), 2);
        house.field(20, 0, 5, true, 0);
        check.due("none", house.refused(), 0);
        house.method(20, 0, self, false, 0);
        check.due("method()", house.refused(), 3);
        house.method(20, 0, self, true, 0);
        check.due("none", house.refused(), 0);
        house.find(20, 20, 9, 0, 4);
        check.due("find()", house.refused(), 6);
        house.newClass(99, 0);
        house.type(99);
        house.target(99);
        house.aim(9, 9);
        house.off(9);
        house.run(99, 9);
        house.keep();
        check.sound("(def f i () 1)");
        check.faulty("(def f i () 1)", 6, 5);
        check.due("the others leave it", house.refused(), 6);
        house.find(20, 20, 0, 0, 4);
        check.due("none", house.refused(), 0);
    }

    private static void targets() {
        HandleHouse house = check.sentence("A new TARGET, aimed at a HANDLE: its number; NONE, refused, when there are 80, or no such HANDLE.");
        int plus = check.make(3, 0, 5, 0);
        for (int h : new int[] {Integer.MIN_VALUE, -1, 1, 500, Integer.MAX_VALUE}) {
            check.due("HANDLE " + h, house.target(h), -1);
        }
        for (int i = 0; i < 80; i++) {
            check.due("TARGET " + i, house.target(plus), i);
        }
        check.due("the 81st", house.target(plus), -1);
        check.comes("the 80th is aimed", check.make(29, 79, 0, 0), 9, 4, 5);
        check.refused("there is no 81st", 1, 29, 80, 0, 0);
        check.due("nor is it aimed", house.aim(80, plus), false);
    }

    private static void aiming() {
        HandleHouse house = check.sentence("A TARGET is aimed at a HANDLE of its TYPE. False, refused, when there is no such TARGET or HANDLE, or it is of another TYPE.");
        int plus = check.make(3, 0, 5, 0);
        int minus = check.make(3, 1, 5, 0);
        house.target(plus);
        int h = check.make(29, 0, 0, 0);
        for (int target : new int[] {Integer.MIN_VALUE, -1, 1, 79, 80, Integer.MAX_VALUE}) {
            check.due("TARGET " + target, house.aim(target, minus), false);
        }
        for (int handle : new int[] {Integer.MIN_VALUE, -1, 3, 500, Integer.MAX_VALUE}) {
            check.due("HANDLE " + handle, house.aim(0, handle), false);
        }
        check.due("another RESULT", house.aim(0, check.make(3, 11, 5, 0)), false);
        check.due("other PLACES", house.aim(0, check.self(5)), false);
        check.comes("it is aimed as it was", h, 9, 5, 4);
        check.due("of its TYPE", house.aim(0, minus), true);
        check.comes("so it is called", h, 1, 5, 4);
        check.due("at what it is aimed at", house.aim(0, minus), true);
        check.due("at its own HANDLE", house.aim(0, h), true);
        check.due("that is TOO DEEP", check.run(h, 9999, 5, 4), 3);
        house = check.again();
        int one = check.constant(5, 1);
        for (int i = 0; i < 5; i++) {
            house.target(one);
        }
        check.due("more TARGETS than HANDLES, at HANDLE 0", house.aim(4, one), true);
        check.due("no HANDLE 1", house.aim(4, 1), false);
        check.comes("the last TARGET", check.make(29, 4, 0, 0), 1);
    }

    private static void points() {
        HandleHouse house = check.sentence("A new POINT, on: its number; NONE, refused, when there are 20.");
        int one = check.constant(5, 1);
        int two = check.constant(5, 2);
        for (int i = 0; i < 20; i++) {
            check.due("POINT " + i, house.point(), i);
        }
        check.due("the 21st", house.point(), -1);
        check.comes("the last is on", check.make(30, 19, 0, 0, one, two), 1);
        check.refused("there is no 21st", 1, 30, 20, 0, 0, one, two);
        check.due("nor is it turned off", house.off(20), false);
    }

    private static void off() {
        HandleHouse house = check.sentence("A POINT is off from now on. False, refused, when there is no such one, or it is off.");
        check.due("none", house.off(0), false);
        house.point();
        house.point();
        for (int point : new int[] {Integer.MIN_VALUE, -1, 2, 19, 20, Integer.MAX_VALUE}) {
            check.due("POINT " + point, house.off(point), false);
        }
        check.due("on", house.off(1), true);
        check.due("off", house.off(1), false);
        check.due("the other is on still", house.off(0), true);
        int h = check.make(30, 1, 0, 0, check.constant(5, 1), check.constant(5, 2));
        check.comes("made behind it", h, 2);
        check.comes("from now on", h, 2);
    }
}
