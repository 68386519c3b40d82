/** Promises 9 to 11: fields, methods, and finding them. */
public final class MembersTest {
    private static final Check check = new Check("MembersTest");
    private static final int PRIVATE = 0;
    private static final int PACKAGE = 1;
    private static final int PROTECTED = 2;
    private static final int PUBLIC = 3;

    public static void main(String[] args) {
        fields();
        fieldRoom();
        methods();
        methodRoom();
        wrongFinds();
        staticMethods();
        makers();
        virtuals();
        privates();
        specials();
        rights();
        useOfFields();
        staticFields();
        addingBounds();
        findOrder();
        findRoom();
        check.end();
    }

    private static void told(String what, int got, int want, int refusal) {
        check.due(what, got, want);
        check.due(what + ": refused()", check.house.refused(), refusal);
    }

    private static void fields() {
        HandleHouse house = check.fresh("promise 9");
        told("no class", house.field(20, 0, 5, false, 0), -1, 1);
        house.newClass(7, 0);
        told("a field", house.field(20, 0, 5, false, 0), 0, 0);
        told("the same again", house.field(20, 0, 5, false, 0), 1, 0);
        told("name 99, PUBLIC, of a class", house.field(20, 99, 20, true, 3), 2, 0);
        told("of O", house.field(7, 0, 5, false, 0), -1, 1);
        told("of V", house.field(20, 0, 0, false, 0), -1, 1);
        told("of no kind", house.field(20, 0, 21, false, 0), -1, 1);
        told("of kind -1", house.field(20, 0, -1, false, 0), -1, 1);
        told("name 100", house.field(20, 100, 5, false, 0), -1, 2);
        told("name -1", house.field(20, -1, 5, false, 0), -1, 2);
        told("rights 4", house.field(20, 0, 5, false, 4), -1, 2);
        told("rights -1", house.field(20, 0, 5, false, -1), -1, 2);
        told("1 ahead of 2", house.field(21, 100, 5, false, 9), -1, 1);
        check.due("how many", house.told(8), 3);
    }

    private static void fieldRoom() {
        HandleHouse house = check.fresh("promise 9");
        house.newClass(7, 0);
        house.newClass(20, 0);
        for (int i = 0; i < 24; i++) {
            told("field " + i, house.field(20 + i % 2, i, 5, false, 0), i, 0);
        }
        told("the 25th that isn't static", house.field(20, 30, 5, false, 0), -1, 5);
        told("2 ahead of 5", house.field(20, 100, 5, false, 0), -1, 2);
        for (int i = 24; i < 100; i++) {
            told("static " + i, house.field(20, 40, 5, true, 0), i, 0);
        }
        told("the 101st", house.field(20, 40, 5, true, 0), -1, 5);
        told("nor a method", house.method(20, 0, check.make(2, 5, 0, 0), true, 0), -1, 5);
    }

    private static void methods() {
        HandleHouse house = check.fresh("promise 10");
        house.newClass(7, 0);
        house.newClass(20, 0);
        int self = check.make(2, 20, 0, 0);
        int plus = check.make(3, 0, 5, 0);
        int types = house.told(6);
        told("a method", house.method(20, 1, self, false, 3), 0, 0);
        check.due("the type without place 0 is made", house.told(6), types + 1);
        told("a static one", house.method(21, 99, plus, true, 0), 1, 0);
        check.due("its type is there", house.told(6), types + 1);
        told("fields and methods in one row", house.field(20, 0, 5, true, 0), 2, 0);
        told("no class", house.method(22, 0, self, false, 3), -1, 1);
        told("of O", house.method(7, 0, self, false, 3), -1, 1);
        told("no handle", house.method(20, 0, 99, false, 3), -1, 1);
        told("handle -1", house.method(20, 0, -1, true, 3), -1, 1);
        told("name 100", house.method(20, 100, self, false, 3), -1, 2);
        told("name -1", house.method(20, -1, self, false, 3), -1, 2);
        told("rights 4", house.method(20, 0, self, false, 4), -1, 2);
        told("rights -1", house.method(20, 0, self, false, -1), -1, 2);
        told("of the class below", house.method(21, 0, self, false, 3), -1, 3);
        told("of no class", house.method(20, 0, plus, false, 3), -1, 3);
        told("without places", house.method(20, 0, check.constant(5, 1), false, 3), -1, 3);
        told("2 ahead of 3", house.method(20, 100, plus, false, 3), -1, 2);
        check.due("how many", house.told(8), 3);
    }

    private static void methodRoom() {
        HandleHouse house = check.fresh("promise 10");
        house.newClass(7, 0);
        int plus = check.make(3, 0, 5, 0);
        int bound = check.make(34, 0, check.type(5, 20, 6), 0);
        check.fillTypes(300);
        told("no room for its type", house.method(20, 1, bound, false, 3), -1, 4);
        for (int i = 0; i < 100; i++) {
            check.due("static " + i, house.method(20, 1, plus, true, 3), i);
        }
        told("the 101st", house.method(20, 1, plus, true, 3), -1, 5);
        told("4 ahead of 5", house.method(20, 1, bound, false, 3), -1, 4);
        check.fresh("promise 10");
        house = check.house;
        house.newClass(7, 0);
        int self = check.make(2, 20, 0, 0);
        plus = check.make(3, 0, 5, 0);
        for (int i = 0; i < 100; i++) {
            house.method(20, 1, plus, true, 3);
        }
        int types = house.told(6);
        told("no room for it", house.method(20, 1, self, false, 3), -1, 5);
        check.due("no type is made", house.told(6), types);
    }

    private static void wrongFinds() {
        HandleHouse house = check.fresh("promise 11");
        house.newClass(7, 0);
        house.field(20, 3, 5, false, 0);
        int type = check.type(5);
        told("no such asker", house.find(21, 20, 3, type, 4), -1, 1);
        told("O asks", house.find(7, 20, 3, type, 4), -1, 1);
        told("no such class", house.find(20, 21, 3, type, 4), -1, 1);
        told("of O", house.find(20, 7, 3, type, 4), -1, 1);
        told("way 9", house.find(20, 20, 3, type, 9), -1, 1);
        told("way -1", house.find(20, 20, 3, type, -1), -1, 1);
        told("name 100", house.find(20, 20, 100, type, 4), -1, 2);
        told("name -1", house.find(20, 20, -1, type, 4), -1, 2);
        told("1 ahead of 2", house.find(20, 20, -1, type, 9), -1, 1);
        for (int way = 0; way <= 3; way++) {
            told("no such type, way " + way, house.find(20, 20, 3, 99, way), -1, 1);
            told("there is none, way " + way, house.find(20, 20, 3, type, way), -1, 6);
        }
        told("the type isn't looked at", house.find(20, 20, 3, -7, 4), 0, 0);
        house.field(20, 99, 5, true, 0);
        told("name 99", house.find(20, 20, 99, -7, 4), 1, 0);
        told("another name", house.find(20, 20, 4, type, 4), -1, 6);
    }

    private static void staticMethods() {
        HandleHouse house = check.fresh("promise 11, way 0");
        house.newClass(7, 0);
        house.newClass(20, 0);
        int plus = check.make(3, 0, 5, 0);
        int minus = check.make(3, 1, 5, 0);
        int type = house.handle(plus, 0);
        int self = check.make(2, 20, 0, 0);
        house.method(20, 1, plus, true, PUBLIC);
        house.method(20, 1, minus, true, PUBLIC);
        told("the first one", house.find(21, 20, 1, type, 0), plus, 0);
        told("from the class below", house.find(21, 21, 1, type, 0), plus, 0);
        house.method(21, 1, minus, true, PUBLIC);
        told("that of the class itself", house.find(20, 21, 1, type, 0), minus, 0);
        told("of another type", house.find(20, 21, 1, check.type(5), 0), -1, 6);
        house.method(20, 2, self, false, PUBLIC);
        told("one that isn't static", house.find(20, 20, 2, check.type(20), 0), -1, 6);
        told("a static one isn't virtual", house.find(20, 20, 1, type, 1), -1, 6);
        house.method(20, 0, check.make(34, 0, check.type(0), 0), true, PUBLIC);
        told("a static one is no maker", house.find(20, 20, 0, check.type(0), 3), -1, 6);
        told("but found", house.find(20, 20, 0, check.type(0), 0) >= 0 ? 1 : 0, 1, 0);
    }

    /** A class with a maker of no places, PUBLIC; the handle that makes an instance. */
    private static int maker(int kind) {
        int empty = check.make(34, 0, check.type(0, kind), 0);
        check.house.method(kind, 0, empty, false, PUBLIC);
        return check.house.find(kind, kind, 0, check.type(0), 3);
    }

    private static void makers() {
        HandleHouse house = check.fresh("promise 11, way 3");
        house.newClass(7, 0);
        house.newClass(20, 0);
        int made = maker(20);
        check.due("form", house.handle(made, 1), 38);
        check.due("a: the method", house.handle(made, 2), 0);
        check.due("b", house.handle(made, 3), 0);
        check.due("c", house.constant(made), 0);
        check.hasType("NEW", made, 20);
        check.comes("an instance", made, 0);
        check.due("of the class", house.told(3), 20);
        check.due("steps", house.told(1), 2);
        check.due("things", house.told(4), 1);
        told("in the class alone", house.find(20, 21, 0, check.type(0), 3), -1, 6);
        told("by name 0", house.find(20, 20, 1, check.type(0), 3), -1, 6);
        told("of its type", house.find(20, 20, 0, check.type(0, 5), 3), -1, 6);
        told("a maker isn't virtual", house.find(20, 20, 0, check.type(0), 1), -1, 6);
        told("nor special", house.find(20, 20, 0, check.type(0), 2), -1, 6);
        int notV = check.make(34, 0, check.type(5, 20), 0);
        house.method(20, 0, notV, false, PUBLIC);
        told("name 0 with a result is no maker", house.find(20, 20, 0, check.type(5), 3), -1, 6);
        told("but virtual", house.find(20, 20, 0, check.type(5), 1) >= 0 ? 1 : 0, 1, 0);
        // a maker that sets a field by its value
        house.field(20, 4, 5, false, PRIVATE);
        int set = house.find(20, 20, 4, 0, 5);
        check.hasType("SET", set, 0, 20, 5);
        house.method(20, 0, set, false, PUBLIC);
        int withValue = house.find(21, 20, 0, check.type(0, 5), 3);
        check.hasType("NEW with a place", withValue, 20, 5);
        int instance = check.kept(withValue, 77);
        check.comes("the field was set", house.find(20, 20, 4, 0, 4), 77, instance);
        int failing = check.make(7, 1, 0, 0, set, check.make(3, 3, 5, 0));
        house.method(20, 0, failing, false, PUBLIC);
        int things = house.told(4);
        check.fails("a maker that throws", house.find(20, 20, 0, check.type(0, 5, 5), 3), 3, 1, 0);
        check.due("its instance counts", house.told(4), things + 1);
    }

    private static int answering(int kind, int number) {
        return check.make(4, 0, check.type(0, kind), 0, check.constant(5, number));
    }

    private static void virtuals() {
        HandleHouse house = check.fresh("promise 11, way 1");
        house.newClass(7, 0);
        house.newClass(20, 0);
        house.newClass(21, 0);
        int first = check.kept(maker(20));
        int second = check.kept(maker(21));
        int third = check.kept(maker(22));
        int base = house.method(20, 5, answering(20, 100), false, PUBLIC);
        int type = check.type(5);
        int h = house.find(22, 21, 5, type, 1);
        check.due("form", house.handle(h, 1), 36);
        check.due("a: the method", house.handle(h, 2), base);
        check.due("b: the class", house.handle(h, 3), 21);
        check.hasType("VIRTUAL", h, 5, 21);
        check.comes("the one there is", h, 100, second);
        check.due("steps", house.told(1), 3);
        check.fails("of NULL", h, 1, -1);
        house.method(22, 5, answering(22, 300), false, PACKAGE);
        check.comes("not for the class above", h, 100, second);
        check.comes("that of the object's class", h, 300, third);
        house.method(21, 5, answering(21, 200), false, PRIVATE);
        check.comes("not a PRIVATE one", h, 100, second);
        house.method(21, 5, answering(21, 201), false, PROTECTED);
        house.method(21, 5, answering(21, 202), false, PUBLIC);
        check.comes("the first of them", h, 201, second);
        int top = house.find(20, 20, 5, type, 1);
        check.comes("the first class", top, 100, first);
        check.comes("the second class", top, 201, second);
        house.method(22, 5, answering(22, 301), true, PUBLIC);
        check.comes("a static one doesn't count", top, 300, third);
        told("an instance of another class", check.run(h, 9, first), -1, 0);
        int minus = check.make(4, 0, check.type(0, 20), 0, check.make(3, 1, 5, 0));
        house.method(20, 6, minus, false, PUBLIC);
        int withPlaces = house.find(20, 22, 6, check.type(5, 5, 5), 1);
        check.hasType("VIRTUAL with places", withPlaces, 5, 22, 5, 5);
        check.comes("its values", withPlaces, 7, third, 10, 3);
        int self = check.make(2, 20, 0, 0);
        house.method(20, 7, self, false, PUBLIC);
        check.run(house.find(20, 20, 7, check.type(20), 1), 9, third);
        check.due("the object itself", house.told(3), 22);
    }

    private static void privates() {
        HandleHouse house = check.fresh("promise 11, way 1");
        house.newClass(7, 0);
        house.newClass(20, 0);
        int second = check.kept(maker(21));
        house.method(20, 5, answering(20, 1), false, PRIVATE);
        house.method(21, 5, answering(21, 2), false, PUBLIC);
        int h = house.find(20, 20, 5, check.type(5), 1);
        check.comes("what was found is PRIVATE", h, 1, second);
        check.comes("found below", house.find(20, 21, 5, check.type(5), 1), 2, second);
    }

    private static void specials() {
        HandleHouse house = check.fresh("promise 11, way 2");
        house.newClass(7, 0);
        house.newClass(20, 0);
        house.newClass(21, 0);
        int third = check.kept(maker(22));
        int base = house.method(20, 5, answering(20, 100), false, PUBLIC);
        house.method(22, 5, answering(22, 300), false, PUBLIC);
        int type = check.type(5);
        int h = house.find(22, 21, 5, type, 2);
        check.due("form", house.handle(h, 1), 37);
        check.due("a: the method", house.handle(h, 2), base);
        check.due("b: who asks", house.handle(h, 3), 22);
        check.hasType("SPECIAL", h, 5, 22);
        check.comes("the found one", h, 100, third);
        check.due("steps", house.told(1), 3);
        check.fails("of NULL", h, 1, -1);
        told("who asks isn't below", house.find(20, 21, 5, type, 2), -1, 7);
        told("who asks is the class", house.find(21, 21, 5, type, 2) >= 0 ? 1 : 0, 1, 0);
        told("none", house.find(22, 21, 6, type, 2), -1, 6);
        int minus = check.make(4, 0, check.type(0, 20), 0, check.make(3, 1, 5, 0));
        house.method(20, 6, minus, false, PUBLIC);
        check.comes("its values", house.find(22, 20, 6, check.type(5, 5, 5), 2), 7, third, 10, 3);
    }

    private static void rights() {
        HandleHouse house = check.fresh("promise 11, who reaches");
        house.newClass(7, 1);
        house.newClass(20, 2);
        house.newClass(7, 1);
        house.newClass(7, 3);
        int[][] due = {{0, -1, -1, -1}, {0, -1, 0, -1}, {0, 0, 0, -1}, {0, 0, 0, 0}};
        for (int rights = PRIVATE; rights <= PUBLIC; rights++) {
            house.field(20, rights, 5, true, rights);
            for (int asker = 20; asker <= 23; asker++) {
                int found = house.find(asker, 20, rights, 0, 4);
                int want = due[rights][asker - 20];
                check.due("rights " + rights + ", asker " + asker, found >= 0 ? 0 : -1, want);
                check.due("its refusal", house.refused(), want == 0 ? 0 : 7);
            }
        }
        house.newClass(21, 1);
        told("the class that has it counts", house.find(24, 24, 1, 0, 4) >= 0 ? 1 : 0, 1, 0);
        told("PRIVATE from below", house.find(24, 24, 0, 0, 4), -1, 7);
        house.field(20, 9, 5, true, PRIVATE);
        house.field(20, 9, 6, true, PUBLIC);
        told("the first one counts, though it isn't reached", house.find(21, 20, 9, 0, 4), -1, 7);
    }

    private static void useOfFields() {
        HandleHouse house = check.fresh("promise 11, fields");
        house.newClass(7, 0);
        house.newClass(20, 0);
        int instance = check.kept(maker(21));
        int other = check.kept(maker(21));
        int member = house.field(20, 3, 5, false, PUBLIC);
        int get = house.find(21, 21, 3, -1, 4);
        check.due("form", house.handle(get, 1), 35);
        check.due("a: the field", house.handle(get, 2), member);
        check.due("b: the way", house.handle(get, 3), 4);
        check.due("c: the class", house.constant(get), 21);
        check.due("no parts", house.handle(get, 4), 0);
        check.hasType("GET", get, 5, 21);
        int set = house.find(21, 21, 3, -1, 5);
        check.hasType("SET", set, 0, 21, 5);
        int swap = house.find(21, 21, 3, -1, 6);
        check.hasType("SWAP", swap, 5, 21, 5);
        int attempt = house.find(21, 21, 3, -1, 7);
        check.hasType("TRY", attempt, 1, 21, 5, 5);
        int add = house.find(21, 21, 3, -1, 8);
        check.hasType("ADD", add, 5, 21, 5);
        check.comes("the ZERO, told later than the instance", get, 0, instance);
        check.comes("SET", set, 0, instance, 5);
        check.due("V", house.told(2), 0);
        check.comes("GET", get, 5, instance);
        check.due("one step", house.told(1), 1);
        check.comes("of another instance", get, 0, other);
        check.comes("SWAP", swap, 5, instance, 6);
        check.comes("TRY of another", attempt, 0, instance, 5, 9);
        check.comes("TRY", attempt, 1, instance, 6, Integer.MAX_VALUE);
        check.comes("ADD", add, Integer.MAX_VALUE, instance, 2);
        check.comes("it wraps", get, Integer.MIN_VALUE + 1, instance);
        for (int way = 4; way <= 8; way++) {
            int h = house.find(21, 21, 3, -1, way);
            int places = house.typeAbout(house.handle(h, 0), -2);
            long[] values = new long[places];
            values[0] = -1;
            check.fails("of NULL, way " + way, h, 1, values);
        }
        check.comes("found by the class above", house.find(21, 20, 3, -1, 4), Integer.MIN_VALUE + 1, instance);
        int twin = house.field(21, 3, 7, false, PUBLIC);
        int objects = house.find(21, 21, 3, -1, 5);
        check.due("the field of the class itself", house.handle(objects, 2), twin);
        check.comes("SET an object", objects, 0, instance, other);
        check.comes("the other field stays", get, Integer.MIN_VALUE + 1, instance);
        check.comes("TRY of an object", house.find(21, 21, 3, -1, 7), 1, instance, other, -1);
    }

    private static void staticFields() {
        HandleHouse house = check.fresh("promise 11, static fields");
        house.newClass(7, 0);
        house.field(20, 0, 5, false, PUBLIC);
        house.field(20, 1, 17, true, PUBLIC);
        house.field(20, 2, 6, true, PUBLIC);
        int get = house.find(20, 20, 1, 0, 4);
        check.hasType("GET", get, 17);
        check.due("c", house.constant(get), 0);
        check.comes("NULL at first", get, 0);
        check.due("NULL", house.told(3), 0);
        int row = check.kept(check.make(20, 17, 0, 0), 4);
        check.comes("SET", house.find(20, 20, 1, 0, 5), 0, row);
        check.comes("GET", get, 4);
        check.comes("ADD", house.find(20, 20, 2, 0, 8), 0, Long.MIN_VALUE);
        check.comes("ADD again", house.find(20, 20, 2, 0, 8), Long.MIN_VALUE, -1);
        check.comes("it wraps", house.find(20, 20, 2, 0, 4), Long.MAX_VALUE);
        check.comes("SWAP", house.find(20, 20, 2, 0, 6), Long.MAX_VALUE, 3);
        check.comes("TRY", house.find(20, 20, 2, 0, 7), 1, 3, 4);
    }

    private static void addingBounds() {
        HandleHouse house = check.fresh("promise 11, way 8");
        house.newClass(7, 0);
        house.newClass(7, 1);
        long[][] rows = {{2, 127, -128}, {3, 32767, -32768}, {4, 65535, 0}, {5, Integer.MAX_VALUE, Integer.MIN_VALUE}};
        for (long[] row : rows) {
            int kind = (int) row[0];
            house.field(20, kind, kind, true, PUBLIC);
            int add = house.find(20, 20, kind, 0, 8);
            check.comes("kind " + kind, add, 0, row[1]);
            check.comes("one more", add, row[1], 1);
            check.comes("it wraps", house.find(20, 20, kind, 0, 4), row[2]);
        }
        for (int kind : new int[] {1, 7, 8, 13, 15, 18, 19, 20}) {
            house.field(20, kind, kind, true, PRIVATE);
            told("kind " + kind, house.find(20, 20, kind, 0, 8), -1, 3);
            told("3 ahead of 7", house.find(21, 20, kind, 0, 8), -1, 3);
        }
        told("6 ahead of 3", house.find(20, 20, 90, 0, 8), -1, 6);
    }

    private static void findOrder() {
        HandleHouse house = check.fresh("promise 11, order");
        house.newClass(7, 0);
        house.newClass(20, 0);
        int first = house.field(20, 1, 5, true, PUBLIC);
        house.field(20, 1, 6, true, PUBLIC);
        check.due("by rising numbers", house.handle(house.find(20, 20, 1, 0, 4), 2), first);
        check.due("up from the class", house.handle(house.find(20, 21, 1, 0, 4), 2), first);
        int own = house.field(21, 1, 6, true, PUBLIC);
        check.due("the class first", house.handle(house.find(20, 21, 1, 0, 4), 2), own);
        check.due("one handle for one member and way", house.find(21, 21, 1, 9, 4), house.find(20, 21, 1, 0, 4));
        int handles = house.told(7);
        house.find(20, 21, 1, 0, 4);
        check.due("nothing new is made", house.told(7), handles);
        told("way 4 looks for no method", house.find(20, 20, 2, 0, 4), -1, 6);
        house.method(20, 2, check.make(3, 0, 5, 0), true, PUBLIC);
        told("though it has the name", house.find(20, 20, 2, 0, 4), -1, 6);
    }

    private static void findRoom() {
        HandleHouse house = check.fresh("promise 11, room");
        house.newClass(7, 0);
        house.field(20, 1, 5, true, PUBLIC);
        house.field(20, 2, 6, true, PRIVATE);
        int plus = check.make(3, 0, 5, 0);
        house.method(20, 3, plus, true, PUBLIC);
        check.fillHandles(500);
        int types = house.told(6);
        told("no room for the handle", house.find(20, 20, 1, 0, 5), -1, 5);
        check.due("no type is made", house.told(6), types);
        told("a static method needs none", house.find(20, 20, 3, house.handle(plus, 0), 0), plus, 0);
        house.newClass(7, 0);
        told("7 ahead of 5", house.find(21, 20, 2, 0, 4), -1, 7);
        house = check.fresh("promise 11, room");
        house.newClass(7, 0);
        house.field(20, 1, 5, true, PUBLIC);
        check.fillTypes(300);
        check.fillHandles(500);
        told("4 ahead of 5", house.find(20, 20, 1, 0, 5), -1, 4);
    }
}
