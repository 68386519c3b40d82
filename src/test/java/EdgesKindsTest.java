/** Sentences of Terms 1 to 3 (KINDS, TYPES, PASSING and FORCING) and of promises 3, 4, 5 and 29. */
public final class EdgesKindsTest {
    private static final int AS = 12;
    private static final int FORCED = 13;
    private static final long MIN = Long.MIN_VALUE;
    private static final long MAX = Long.MAX_VALUE;
    private static final Check check = new Check("EdgesKindsTest");

    public static void main(String[] args) {
        resultsAlone();
        plainBounds(check.sentence("PLAIN: 1 Z (0, 1),"), 1, 0, 1);
        plainBounds(check.sentence("2 B (-128 .. 127),"), 2, -128, 127);
        plainBounds(check.sentence("3 S (-32,768 .. 32,767),"), 3, -32768, 32767);
        plainBounds(check.sentence("4 C (0 .. 65,535),"), 4, 0, 65535);
        plainBounds(check.sentence("5 I (an int),"), 5, Integer.MIN_VALUE, Integer.MAX_VALUE);
        plainBounds(check.sentence("6 J (a long)."), 6, MIN, MAX);
        boxKinds();
        rowKinds();
        handleAndErrorKinds();
        classKinds();
        belowItself();
        belowObject();
        belowNumber();
        belowParents();
        plainValues();
        objectKinds();
        valuesOfKinds();
        sameObjects();
        zeros();
        typeNumbers();
        typePlaces();
        equalTypes();
        classesRefused();
        typesMade();
        typesRefused();
        typeQuestions();
        noSuchType();
        passingItself();
        plainToPlain();
        plainToReference();
        referenceToReference();
        referenceToPlain();
        resultsOfV();
        forcingPlain();
        forcingReference();
        mayOfNoKinds();
        check.end();
    }

    private static void resultsAlone() {
        HandleHouse house = check.sentence("1. KINDS, numbered. 0 V: no value, of results alone.");
        check.due("V as a RESULT", check.type(0), 0);
        check.due("V as the one PLACE", check.type(5, 0), -1);
        check.due("V as the last PLACE", check.type(5, 5, 0), -1);
        check.refused("CONSTANT of V", 1, 0, 0, 0, 0);
        check.refused("SELF of V", 1, 2, 0, 0, 0);
        house.newClass(7, 0);
        check.due("a FIELD of V", house.field(20, 1, 0, true, 3), -1);
        check.due("its refusal", house.refused(), 1);
        check.due("V is passed as no value", house.may(0, 5, true), false);
        check.hasType("THROW has V as RESULT", check.make(19, 0, 19, 0), 0, 19);
        check.comesTo("EMPTY of V", 0, 0, check.empty(0));
        check.due("its kind", house.told(2), 0);
        check.due("nothing to keep", house.keep(), -1);
    }

    private static void plainBounds(HandleHouse house, int kind, long low, long high) {
        int self = check.self(kind);
        long[] inside = {low, low + 1, 0, 1, high - 1, high};
        for (long n : inside) {
            check.comes("CONSTANT " + n, check.constant(kind, n), n);
            check.comes("a value that waits, " + n, self, n, n);
            check.comes("BIND " + n, check.make(6, 0, 0, n, self), n);
        }
        if (kind == 6) {
            return;
        }
        long[] outside = {low - 1, high + 1, low - (1L << 32), high + (1L << 32), 1L << 32, MIN, MAX};
        for (long n : outside) {
            check.refused("CONSTANT " + n, 2, 0, kind, 0, n);
            check.refused("BIND " + n, 2, 6, 0, 0, n, self);
            check.due("a value that waits, " + n, check.run(self, 9, n), -1);
        }
        check.due("the kind of the RESULT", house.told(2), kind);
    }

    private static void boxKinds() {
        HandleHouse house = check.sentence("REFERENCES: 7 O; 8 N; 9 to 14 BOXES (that of PLAIN k is k + 8);");
        for (int k = 1; k <= 6; k++) {
            check.comesTo("a box of " + k, k + 8, 1, check.resultAs(AS, k, 7), 1);
            for (int box = 9; box <= 14; box++) {
                check.due(k + " as " + box, house.may(k, box, false), box == k + 8);
                check.due(k + " forced as " + box, house.may(k, box, true), box == k + 8);
            }
        }
        check.refused("NULL of 6, a PLAIN kind: no VALUE, a number", 2, 0, 5, 0, 1L << 31);
        check.hasType("NULL of 7", check.constant(7, -1), 7);
        check.refused("7 has no numbers: no VALUE 0", 1, 0, 7, 0, 0);
    }

    private static void rowKinds() {
        check.sentence("15, 16, 17 ROWS, whose ELEMENTS are of I, J, O;");
        int[] elements = {5, 6, 7};
        for (int row = 15; row <= 17; row++) {
            check.hasType("GET of " + row, check.make(22, row, 0, 0), elements[row - 15], row, 5);
            int objects = check.row(row, 1);
            check.due("a new one of " + row, check.house.value(objects, 0), row);
        }
        check.refused("14 is no ROW", 1, 20, 14, 0, 0);
        check.refused("18 is no ROW", 1, 20, 18, 0, 0);
    }

    private static void handleAndErrorKinds() {
        check.sentence("18 H; 19 E;");
        int self = check.self(5);
        check.comesTo("HANDLE", 18, self, check.make(1, 0, 0, 0, self));
        check.fails("an ERROR", check.make(3, 3, 5, 0), 3, 1, 0);
    }

    private static void classKinds() {
        HandleHouse house = check.sentence(
            "20 to 31 CLASSES, as they are told, each with a PARENT: O, E or a CLASS told ahead.");
        check.refused("SELF of 20 ahead of it", 1, 2, 20, 0, 0);
        check.due("a PARENT that isn't told yet", house.newClass(20, 0), -1);
        check.due("below O", house.newClass(7, 0), 20);
        check.due("below E", house.newClass(19, 0), 21);
        for (int kind = 22; kind <= 31; kind++) {
            check.due("the next isn't told ahead", house.newClass(kind, 0), -1);
            check.due("below the one told ahead", house.newClass(kind - 1, 0), kind);
        }
        check.hasType("SELF of the last", check.self(31), 31, 31);
        check.refused("SELF of 32", 1, 2, 32, 0, 0);
    }

    /** IS tells which kinds an OBJECT is a value of, and so which its kind is BELOW. */
    private static void isOf(String what, int value, int... kinds) {
        for (int kind = 7; kind <= 24; kind++) {
            boolean due = false;
            for (int below : kinds) {
                due = due || below == kind;
            }
            if (kind < 20 || check.house.may(kind, kind, false)) {
                check.comes(what + " IS " + kind, check.make(31, kind, 0, 0), due ? 1 : 0, value);
            }
        }
    }

    private static void belowItself() {
        HandleHouse house = check.sentence("A kind is BELOW itself;");
        house.newClass(19, 0);
        isOf("a row of J", check.row(16, 1), 7, 16);
        check.hasType("THROW of E, which is BELOW E", check.make(19, 5, 19, 0), 5, 19);
        int special = check.empty(5, 20);
        house.method(20, 1, special, false, 3);
        check.due("who asks is the CLASS", house.find(20, 20, 1, check.type(5), 2) >= 0, true);
        check.due("PROTECTED of the CLASS itself", house.field(20, 2, 5, true, 2), 1);
        check.due("is REACHED", house.find(20, 20, 2, 0, 4) >= 0, true);
    }

    private static void belowObject() {
        HandleHouse house = check.sentence("REFERENCES are BELOW O;");
        house.newClass(7, 0);
        house.newClass(19, 0);
        int[] values = {check.box(1, 1), check.box(4, 1), check.box(6, 1), check.row(15, 0), check.row(17, 0),
            check.object(check.self(5)), check.kept(check.make(3, 3, 5, 0), 1, 0), check.instance(20), check.instance(21)};
        for (int v : values) {
            check.due("VALUE " + v + " as O", check.run(check.self(7), 9, v), 0);
        }
        check.due("O is BELOW no row", check.kept(check.self(7), check.row(15, 0)) >= 0, true);
        check.refused("a row of I as one of J", 3, 0, 16, 0, check.row(15, 0));
    }

    private static void belowNumber() {
        check.sentence("the BOXES of B, S, I, J are BELOW N;");
        check.again();
        isOf("a box of Z", check.box(1, 1), 7, 9);
        check.again();
        isOf("a box of B", check.box(2, 1), 7, 8, 10);
        check.again();
        isOf("a box of S", check.box(3, 1), 7, 8, 11);
        check.again();
        isOf("a box of C", check.box(4, 1), 7, 12);
        check.again();
        isOf("a box of I", check.box(5, 1), 7, 8, 13);
        check.again();
        isOf("a box of J", check.box(6, 1), 7, 8, 14);
        check.again();
        isOf("H", check.object(check.self(5)), 7, 18);
        check.again();
        isOf("E", check.kept(check.make(3, 3, 5, 0), 1, 0), 7, 19);
    }

    private static void belowParents() {
        check.sentence("a CLASS is BELOW its PARENT and all that this is BELOW.");
        int[][] below = {{7, 20}, {7, 20, 21}, {7, 20, 21, 22}, {7, 19, 23}, {7, 19, 23, 24}};
        for (int i = 0; i < below.length; i++) {
            fiveClasses();
            isOf("" + (20 + i), check.instance(20 + i), below[i]);
        }
        fiveClasses();
        check.hasType("THROW of one BELOW E", check.make(19, 5, 24, 0), 5, 24);
        check.refused("THROW of one that isn't", 1, 19, 5, 22, 0);
    }

    /** 20, 21 and 22, each below the one ahead; 23 below E, 24 below it. */
    private static void fiveClasses() {
        HandleHouse house = check.again();
        for (int parent : new int[] {7, 20, 21, 19, 23}) {
            house.newClass(parent, 0);
        }
    }

    private static void plainValues() {
        check.sentence("VALUES. Those of PLAIN kinds are numbers as told.");
        int self = check.self(6);
        check.comesTo("a number is no OBJECT", 0, 77, self, 77);
        check.due("and isn't kept", check.house.keep(), -1);
    }

    private static void objectKinds() {
        HandleHouse house = check.sentence("Those of REFERENCES are NULL or OBJECTS, each of which has a kind: a BOX has a"
            + " number of its PLAIN kind; a ROW has ELEMENTS; H has a HANDLE; E has a CODE; INSTANCES are of a CLASS.");
        house.newClass(7, 0);
        int self = check.self(2);
        int[] values = {check.box(2, -128), check.row(16, 3), check.object(self), check.kept(check.make(3, 4, 6, 0), 1, 0),
            check.instance(20)};
        int[] kinds = {10, 16, 18, 19, 20};
        long[] numbers = {-128, 3, self, 3, 0};
        for (int i = 0; i < values.length; i++) {
            check.due("kind of " + i, house.value(values[i], 0), kinds[i]);
            check.due("number of " + i, house.value(values[i], 1), numbers[i]);
        }
        check.comesTo("NULL has none", 0, 0, check.self(17), -1);
    }

    private static void valuesOfKinds() {
        HandleHouse house = check.sentence("An OBJECT is a value of each kind that its kind is BELOW, NULL of each REFERENCE.");
        house.newClass(7, 0);
        house.newClass(20, 0);
        int box = check.box(3, 5);
        int below = check.instance(21);
        int above = check.instance(20);
        for (int kind = 7; kind <= 21; kind++) {
            int self = check.self(kind);
            check.comesTo("NULL of " + kind, 0, 0, self, -1);
            check.due("a box of S of " + kind, check.run(self, 9, box), kind == 7 || kind == 8 || kind == 11 ? 0 : -1);
            check.due("21 of " + kind, check.run(self, 9, below), kind == 7 || kind >= 20 ? 0 : -1);
            check.due("20 of " + kind, check.run(self, 9, above), kind == 7 || kind == 20 ? 0 : -1);
        }
        check.refused("-1 isn't NULL of a PLAIN kind", 2, 0, 4, 0, -1);
    }

    private static void sameObjects() {
        HandleHouse house = check.sentence("BOXES of one kind with one number are the same one, likewise those of H with one"
            + " HANDLE, of E with one CODE; ROWS and INSTANCES are as they were made.");
        house.newClass(7, 0);
        int same = check.make(32, 0, 0, 0);
        check.comes("one kind, one number", same, 1, check.box(5, 300), check.box(5, 300));
        check.comes("one kind, two numbers", same, 0, check.box(5, 300), check.box(5, 301));
        check.comes("two kinds, one number", same, 0, check.box(5, 300), check.box(6, 300));
        int self = check.self(5);
        check.comes("one HANDLE", same, 1, check.object(self), check.object(self));
        check.comes("two HANDLES", same, 0, check.object(self), check.object(same));
        int divide = check.kept(check.make(3, 3, 5, 0), 1, 0);
        check.comes("one CODE", same, 1, divide, check.kept(check.make(3, 4, 6, 0), 9, 0));
        check.comes("two CODES", same, 0, divide, check.kept(check.make(21, 15, 0, 0), -1));
        int row = check.row(15, 0);
        check.comes("one ROW", same, 1, row, row);
        check.comes("two ROWS without ELEMENTS", same, 0, row, check.row(15, 0));
        int made = check.instance(20);
        check.comes("one INSTANCE", same, 1, made, made);
        check.comes("two INSTANCES", same, 0, made, check.kept(house.find(20, 20, 0, check.type(0), 3)));
        check.comes("NULL and a box of 0", same, 0, -1, check.box(5, 0));
    }

    private static void zeros() {
        HandleHouse house = check.sentence("The ZERO of a PLAIN kind is 0, of a REFERENCE NULL, of V nothing.");
        house.newClass(7, 0);
        for (int kind = 0; kind <= 20; kind++) {
            check.comesTo("EMPTY of " + kind, 0, 0, check.empty(kind));
            check.due("its kind", house.told(2), kind);
            check.due("nothing to keep", house.keep(), -1);
        }
    }

    private static void typeNumbers() {
        HandleHouse house = check.sentence("2. TYPES are numbered from 0 on as they are first made, 300 at most;");
        check.due("the first", check.type(5), 0);
        check.due("the second", check.type(5, 5), 1);
        check.due("by a handle the third", house.handle(check.self(6), 0), 2);
        check.fillTypes(299);
        check.due("the 300th", check.type(31 - 12, 1, 1, 1), 299);
        check.due("the 301st", check.type(19, 1, 1, 1, 1), -1);
        check.due("how many", house.told(6), 300);
        check.refused("the 301st by a handle", 4, 3, 11, 6, 0);
    }

    private static void typePlaces() {
        HandleHouse house = check.sentence(
            "each has a RESULT's kind and 0 to 10 PLACES, kinds but V, numbered from 0 on.");
        check.due("no PLACES", check.type(6), 0);
        check.due("ten", check.type(6, 1, 2, 3, 4, 5, 6, 7, 8, 9, 10), 1);
        check.due("eleven", check.type(6, 1, 2, 3, 4, 5, 6, 7, 8, 9, 10, 11), -1);
        check.due("how many of the first", house.typeAbout(0, -2), 0);
        check.due("it has no PLACE 0", house.typeAbout(0, 0), -1);
        check.due("how many of the second", house.typeAbout(1, -2), 10);
        check.due("PLACE 0", house.typeAbout(1, 0), 1);
        check.due("PLACE 9", house.typeAbout(1, 9), 10);
        check.due("PLACE 10", house.typeAbout(1, 10), -1);
        check.due("V among ten", check.type(6, 1, 2, 3, 4, 5, 6, 7, 8, 9, 0), -1);
    }

    private static void equalTypes() {
        HandleHouse house = check.sentence("Equal ones are one.");
        check.due("(I J)V", check.type(0, 5, 6), 0);
        check.due("again", check.type(0, 5, 6), 0);
        check.due("another RESULT", check.type(5, 5, 6), 1);
        check.due("another order", check.type(0, 6, 5), 2);
        check.due("one PLACE fewer", check.type(0, 5), 3);
        check.due("one PLACE more", check.type(0, 5, 6, 5), 4);
        check.due("of a handle", house.handle(check.empty(0, 5, 6), 0), 0);
        check.due("ten PLACES", check.type(5, 1, 2, 3, 4, 5, 6, 7, 8, 9, 10), 5);
        check.due("ten PLACES again", check.type(5, 1, 2, 3, 4, 5, 6, 7, 8, 9, 10), 5);
        check.due("but for the last", check.type(5, 1, 2, 3, 4, 5, 6, 7, 8, 9, 11), 6);
        check.fillTypes(300);
        check.due("also when there are 300", check.type(0, 5, 6, 5), 4);
    }

    private static void classesRefused() {
        HandleHouse house = check.sentence("A new CLASS: its kind. NONE, refused, when there are 12, or parent is none of O, E, a CLASS.");
        for (int parent : new int[] {Integer.MIN_VALUE, -1, 0, 1, 6, 8, 9, 14, 15, 18, 20, 31, 32, Integer.MAX_VALUE}) {
            check.due("parent " + parent, house.newClass(parent, 0), -1);
        }
        for (int i = 0; i < 12; i++) {
            check.due("class " + i, house.newClass(i % 3 == 0 ? 7 : i % 3 == 1 ? 19 : 19 + i, Integer.MIN_VALUE + i), 20 + i);
        }
        for (int parent : new int[] {7, 19, 20, 31}) {
            check.due("the 13th, parent " + parent, house.newClass(parent, 0), -1);
        }
        check.refused("there is no kind 32", 1, 2, 32, 0, 0);
    }

    private static void typesMade() {
        HandleHouse house = check.sentence("The TYPE with a RESULT, the row its PLACES: its number.");
        check.put(7, 5, 7);
        check.due("its number", house.type(6), 0);
        check.due("its RESULT", house.typeAbout(0, -1), 6);
        check.due("its PLACE 1", house.typeAbout(0, 1), 5);
    }

    private static void typesRefused() {
        HandleHouse house = check.sentence("NONE, refused, when a kind isn't there, a PLACE is V, there are more than 10,"
            + " or it is a new one and there are 300. Takes the row.");
        check.due("RESULT -1", check.type(-1), -1);
        check.due("RESULT 20", check.type(20), -1);
        check.due("RESULT 32", check.type(32), -1);
        check.due("PLACE -1", check.type(5, -1), -1);
        check.due("PLACE 20", check.type(5, 5, 20), -1);
        check.due("PLACE V", check.type(5, 0), -1);
        check.due("eleven PLACES", check.type(5, 5, 5, 5, 5, 5, 5, 5, 5, 5, 5, 5), -1);
        check.due("twenty PLACES", check.type(5, 5, 5, 5, 5, 5, 5, 5, 5, 5, 5, 5, 5, 5, 5, 5, 5, 5, 5, 5, 5), -1);
        check.due("none was made", house.told(6), 0);
        check.due("a refused one took the row", check.type(5), 0);
        check.due("with no PLACES", house.typeAbout(0, -2), 0);
        house.newClass(7, 0);
        check.due("RESULT 20 now", check.type(20, 20), 1);
        check.due("also one that was made took the row", check.type(20), 2);
        check.fillTypes(300);
        check.due("a new one", check.type(20, 20, 20), -1);
        check.due("no new one", check.type(20, 20), 1);
        check.due("how many", house.told(6), 300);
    }

    private static void typeQuestions() {
        HandleHouse house = check.sentence("A TYPE's RESULT (what -1), how many PLACES it has (-2), PLACE k (what k).");
        check.type(0, 19);
        check.due("RESULT V", house.typeAbout(0, -1), 0);
        check.due("how many", house.typeAbout(0, -2), 1);
        check.due("PLACE 0", house.typeAbout(0, 0), 19);
    }

    private static void noSuchType() {
        HandleHouse house = check.sentence("NONE when there is none such. ## Promise 6");
        check.type(5, 6);
        for (int what : new int[] {Integer.MIN_VALUE, -3, 1, 2, 10, Integer.MAX_VALUE}) {
            check.due("what " + what, house.typeAbout(0, what), -1);
        }
        for (int type : new int[] {Integer.MIN_VALUE, -1, 1, 299, 300, Integer.MAX_VALUE}) {
            for (int what = -3; what <= 1; what++) {
                check.due("type " + type + ", what " + what, house.typeAbout(type, what), -1);
            }
        }
        check.fillTypes(300);
        for (int what = -3; what <= 10; what++) {
            check.due("300 of 300, what " + what, house.typeAbout(300, what), -1);
        }
    }

    private static void passingItself() {
        HandleHouse house = check.sentence("3. PASSING a value of kind a as one of kind b, if it MAY: a is b: as it is.");
        house.newClass(7, 0);
        for (int kind = 1; kind <= 20; kind++) {
            check.due("may " + kind, house.may(kind, kind, false), true);
            check.due("forced " + kind, house.may(kind, kind, true), true);
        }
        int wide = check.make(AS, 0, check.type(0, 6, 17), 0, check.empty(5, 6, 17));
        check.comes("places as they are", wide, 0, MIN, -1);
    }

    private static void plainToPlain() {
        HandleHouse house = check.sentence("PLAIN to PLAIN: B to S, I, J; S to I, J; C to I, J; I to J: the number.");
        String[] may = {"100000", "011011", "001011", "000111", "000011", "000001"};
        long[] lows = {0, -128, -32768, 0, Integer.MIN_VALUE};
        long[] highs = {1, 127, 32767, 65535, Integer.MAX_VALUE};
        for (int from = 1; from <= 6; from++) {
            for (int to = 1; to <= 6; to++) {
                boolean due = may[from - 1].charAt(to - 1) == '1';
                check.due(from + " to " + to, house.may(from, to, false), due);
                if (due && from != to) {
                    check.comes("the lowest", check.placeAs(AS, from, to), lows[from - 1], lows[from - 1]);
                    check.comes("the highest, as RESULT", check.resultAs(AS, from, to), highs[from - 1], highs[from - 1]);
                } else if (!due) {
                    check.refused("AS " + from + " to " + to, 3, AS, 0, check.type(to, from), 0, check.self(to));
                }
            }
        }
    }

    private static void plainToReference() {
        HandleHouse house = check.sentence("PLAIN to a REFERENCE that the BOX of a is BELOW: a BOX with it.");
        house.newClass(7, 0);
        for (int from = 1; from <= 6; from++) {
            for (int to = 7; to <= 20; to++) {
                boolean number = to == 8 && from != 1 && from != 4;
                boolean due = to == 7 || number || to == from + 8;
                check.due(from + " to " + to, house.may(from, to, false), due);
                check.due(from + " forced to " + to, house.may(from, to, true), due);
                if (due) {
                    check.comesTo("a box", from + 8, 1, check.resultAs(AS, from, to), 1);
                }
            }
        }
    }

    private static void referenceToReference() {
        HandleHouse house = check.sentence("REFERENCE to REFERENCE: as it is; an OBJECT that is no value of b: ERROR 2.");
        house.newClass(7, 0);
        house.newClass(20, 0);
        for (int from = 7; from <= 21; from++) {
            for (int to = 7; to <= 21; to++) {
                check.due(from + " to " + to, house.may(from, to, false), true);
            }
        }
        int upper = check.instance(20);
        int lower = check.instance(21);
        check.comesTo("down to its own CLASS", 21, 0, check.placeAs(AS, 7, 21), lower);
        check.fails("down to another CLASS", check.placeAs(AS, 7, 21), 2, upper);
        check.comesTo("up", 21, 0, check.placeAs(AS, 21, 20), lower);
        check.comesTo("NULL to any", 0, 0, check.placeAs(AS, 15, 16), -1);
        check.fails("a row to another", check.placeAs(AS, 15, 16), 2, check.row(15, 1));
        check.fails("as RESULT", check.resultAs(AS, 7, 8), 2, check.box(4, 1));
        check.comesTo("a box of J as N", 14, 9, check.resultAs(AS, 7, 8), check.box(6, 9));
        check.fails("forced likewise", check.placeAs(FORCED, 7, 13), 2, check.box(6, 9));
    }

    private static void referenceToPlain() {
        HandleHouse house = check.sentence("REFERENCE to PLAIN: from O; from N to B, S, I, J; from a BOX whose PLAIN kind MAY be"
            + " passed as b: NULL: ERROR 1; an OBJECT that is no BOX, or one whose PLAIN kind may not be passed as b: ERROR 2; else its number.");
        house.newClass(7, 0);
        String[] plain = {"100000", "011011", "001011", "000111", "000011", "000001"};
        for (int to = 1; to <= 6; to++) {
            house = check.again();
            house.newClass(7, 0);
            check.due("O to " + to, house.may(7, to, false), true);
            check.due("N to " + to, house.may(8, to, false), to != 1 && to != 4);
            for (int box = 9; box <= 14; box++) {
                check.due(box + " to " + to, house.may(box, to, false), plain[box - 9].charAt(to - 1) == '1');
            }
            for (int other = 15; other <= 20; other++) {
                check.due(other + " to " + to, house.may(other, to, false), false);
            }
            int opened = check.placeAs(AS, 7, to);
            check.fails("NULL to " + to, opened, 1, -1);
            check.fails("no box to " + to, opened, 2, check.row(15, 0));
            for (int from = 1; from <= 6; from++) {
                if (plain[from - 1].charAt(to - 1) == '1') {
                    check.comesTo("box of " + from + " to " + to, 0, 1, opened, check.box(from, 1));
                } else {
                    check.fails("box of " + from + " to " + to, opened, 2, check.box(from, 1));
                }
            }
        }
        check.fails("NULL from a box", check.placeAs(AS, 13, 6), 1, -1);
        check.fails("NULL from N", check.resultAs(AS, 8, 5), 1, -1);
        check.fails("a box of J from N", check.resultAs(AS, 8, 5), 2, check.box(6, 1));
    }

    private static void resultsOfV() {
        HandleHouse house = check.sentence("As RESULTS also V to any: the ZERO; any to V: nothing.");
        int ofV = check.empty(0);
        for (int kind = 1; kind <= 19; kind++) {
            check.comesTo("V to " + kind, 0, 0, check.make(AS, 0, check.type(kind), 0, ofV));
            check.due("its kind", house.told(2), kind);
            check.comesTo(kind + " to V", 0, 0, check.resultAs(AS, kind, 0), kind < 7 ? 1 : -1);
            check.due("V", house.told(2), 0);
            check.due("as no RESULT", house.may(0, kind, false) || house.may(kind, 0, false), false);
        }
        check.comesTo("an OBJECT to V", 0, 0, check.resultAs(AS, 15, 0), check.row(15, 3));
        check.due("V to V is the same handle", check.make(AS, 0, check.type(0), 0, ofV), ofV);
    }

    private static void forcingPlain() {
        HandleHouse house = check.sentence("FORCING: likewise, but PLAIN to PLAIN MAY always: the number's lowest bits as one of b"
            + " (of Z one bit; of C without sign; of others with sign);");
        long[] numbers = {0, 1, -1, 2, 127, 128, -129, 255, 32767, 32768, -32769, 65535, 65536, 1L << 31, (1L << 32) - 1, 1L << 32, MIN, MAX};
        for (int to = 1; to <= 6; to++) {
            house = check.again();
            for (int from = 1; from <= 6; from++) {
                check.due(from + " to " + to, house.may(from, to, true), true);
            }
            int forced = check.placeAs(FORCED, 6, to);
            for (long n : numbers) {
                check.comes(n + " to " + to, forced, lowest(n, to), n);
            }
        }
        check.comes("C to S", check.resultAs(FORCED, 4, 3), -1, 65535);
        check.comes("B to C", check.resultAs(FORCED, 2, 4), 65535, -1);
        check.comes("Z to J", check.resultAs(FORCED, 1, 6), 1, 1);
    }

    private static long lowest(long n, int kind) {
        int[] bits = {1, 8, 16, 16, 32, 64};
        int gap = 64 - bits[kind - 1];
        return kind == 1 || kind == 4 ? n << gap >>> gap : n << gap >> gap;
    }

    private static void forcingReference() {
        HandleHouse house = check.sentence("and REFERENCE to PLAIN MAY from O, N and each BOX: NULL: 0; no BOX: ERROR 2; else its number is forced.");
        for (int to = 1; to <= 6; to++) {
            house = check.again();
            house.newClass(7, 0);
            for (int from = 7; from <= 20; from++) {
                check.due(from + " to " + to, house.may(from, to, true), from <= 14);
                if (from > 14) {
                    check.refused("FORCED " + from + " to " + to, 3, FORCED, 0, check.type(to, from), 0, check.self(to));
                }
            }
            check.comesTo("NULL to " + to, 0, 0, check.placeAs(FORCED, 7, to), -1);
        }
        check.comes("NULL of a box", check.placeAs(FORCED, 12, 1), 0, -1);
        check.comes("NULL of N as RESULT", check.resultAs(FORCED, 8, 4), 0, -1);
        check.fails("no box", check.placeAs(FORCED, 7, 5), 2, check.row(15, 1));
        check.fails("an INSTANCE", check.placeAs(FORCED, 7, 1), 2, check.instance(20));
        check.comes("a box of J to Z", check.placeAs(FORCED, 7, 1), 1, check.box(6, 3));
        check.comes("a box of J to B", check.placeAs(FORCED, 8, 2), -128, check.box(6, 128));
        check.comes("a box of C to S", check.placeAs(FORCED, 12, 3), -1, check.box(4, 65535));
        check.comes("a box of I to C", check.placeAs(FORCED, 13, 4), 65535, check.box(5, -1));
    }

    private static void mayOfNoKinds() {
        HandleHouse house = check.sentence("Whether a value of kind a MAY be passed as b, or forced (as no RESULT). False when"
            + " there are no such kinds, or one is V.");
        for (int none : new int[] {Integer.MIN_VALUE, -1, 0, 20, 31, 32, Integer.MAX_VALUE}) {
            for (int kind : new int[] {-1, 0, 1, 5, 7, 13, 19, 20, none}) {
                check.due(none + " as " + kind, house.may(none, kind, false), false);
                check.due(kind + " as " + none, house.may(kind, none, false), false);
                check.due(none + " forced as " + kind, house.may(none, kind, true), false);
                check.due(kind + " forced as " + none, house.may(kind, none, true), false);
            }
        }
        house.newClass(19, 0);
        check.due("20 as O", house.may(20, 7, false), true);
        check.due("O as 20", house.may(7, 20, true), true);
        check.due("20 as 21", house.may(20, 21, true), false);
        check.due("20 as V", house.may(20, 0, true), false);
    }
}
