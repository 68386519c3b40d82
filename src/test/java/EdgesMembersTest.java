/** Sentences of Terms 6 (MEMBERS) and of promises 9 to 11. */
public final class EdgesMembersTest {
    private static final int PRIVATE = 0;
    private static final int PACKAGE = 1;
    private static final int PROTECTED = 2;
    private static final int PUBLIC = 3;
    private static final Check check = new Check("EdgesMembersTest");

    public static void main(String[] args) {
        toldClasses();
        memberNumbers();
        memberNames();
        fieldZeros();
        instanceFields();
        twentyFourFields();
        methodHandles();
        makers();
        privateReach();
        everyReach();
        packageReach();
        protectedReach();
        publicReach();
        findOrder();
        notReached();
        refusalsOfFinding();
        staticMethods();
        virtualFound();
        virtualNull();
        virtualPrivate();
        virtualChosen();
        neighbours();
        special();
        newFound();
        newCalls();
        fieldTypeNotLookedAt();
        fieldForms();
        fieldWays();
        fieldAdd();
        fieldAddKinds();
        fieldClass();
        fieldRefused();
        fieldRoom();
        methodRefused();
        methodRoom();
        finding();
        check.end();
    }

    private static void found(String what, int got, int want) {
        check.due(what, got, want);
        check.due(what + ": refused()", check.house.refused(), 0);
    }

    private static void refused(String what, int got, int refusal) {
        check.due(what, got, -1);
        check.due(what + ": refused()", check.house.refused(), refusal);
    }

    /** (kind)I that comes to a number. */
    private static int answering(int kind, int number) {
        return check.make(4, 0, check.type(0, kind), 0, check.constant(5, number));
    }

    private static void toldClasses() {
        HandleHouse house = check.sentence("6. MEMBERS. A CLASS is told with a PARENT and a PACKAGE.");
        house.newClass(7, Integer.MIN_VALUE);
        house.newClass(20, Integer.MAX_VALUE);
        house.newClass(7, Integer.MIN_VALUE);
        house.field(20, 1, 5, true, PACKAGE);
        check.due("one PACKAGE", house.find(22, 20, 1, 0, 4) >= 0, true);
        refused("another", house.find(21, 20, 1, 0, 4), 7);
        check.due("its PARENT's members", house.find(20, 21, 1, 0, 4) >= 0, true);
    }

    private static void memberNumbers() {
        HandleHouse house = check.sentence("FIELDS and METHODS of it are numbered from 0 on in one row, 100 at most;");
        house.newClass(7, 0);
        house.newClass(7, 0);
        int self = check.self(5);
        for (int i = 0; i < 100; i++) {
            int member = i % 2 == 0 ? house.field(20 + i % 4 / 2, i, 5, true, PUBLIC) : house.method(20 + i % 4 / 2, i, self, true, PUBLIC);
            check.due("member " + i, member, i);
        }
        refused("the 101st, a FIELD", house.field(20, 1, 5, true, PUBLIC), 5);
        refused("the 101st, a METHOD", house.method(21, 1, self, true, PUBLIC), 5);
        check.due("how many", house.told(8), 100);
        check.due("the last FIELD", house.handle(house.find(20, 21, 98, 0, 4), 2), 98);
        found("the last METHOD", house.find(20, 21, 99, house.handle(self, 0), 0), self);
    }

    private static void memberNames() {
        HandleHouse house = check.sentence("each has a name (0 .. 99), RIGHTS: 0 PRIVATE, 1 PACKAGE, 2 PROTECTED, 3 PUBLIC, and is STATIC or not;");
        house.newClass(7, 0);
        int self = check.self(20);
        for (int name : new int[] {-1, 100}) {
            refused("FIELD " + name, house.field(20, name, 5, false, PUBLIC), 2);
            refused("METHOD " + name, house.method(20, name, self, false, PUBLIC), 2);
            refused("to find " + name, house.find(20, 20, name, 0, 4), 2);
        }
        for (int rights : new int[] {-1, 4}) {
            refused("FIELD of RIGHTS " + rights, house.field(20, 1, 5, false, rights), 2);
            refused("METHOD of RIGHTS " + rights, house.method(20, 1, self, false, rights), 2);
        }
        int member = 0;
        for (int name : new int[] {0, 99}) {
            for (int rights = PRIVATE; rights <= PUBLIC; rights++) {
                found("FIELD " + name, house.field(20, name, 5, rights % 2 == 0, rights), member);
                found("METHOD " + name, house.method(20, name, self, rights % 2 == 1, rights), member + 1);
                member += 2;
            }
        }
    }

    private static void fieldZeros() {
        HandleHouse house = check.sentence("a FIELD has a kind, and the ZERO at first");
        house.newClass(7, 0);
        int instance = check.instance(20);
        for (int kind = 1; kind <= 20; kind++) {
            house.field(20, kind, kind, false, PUBLIC);
            house.field(20, 50 + kind, kind, true, PUBLIC);
            check.comesTo("GET of " + kind, 0, 0, house.find(20, 20, kind, 0, 4), instance);
            check.due("its kind", house.told(2), kind);
            check.comesTo("GET of a STATIC one", 0, 0, house.find(20, 20, 50 + kind, 0, 4));
            check.due("its kind", house.told(2), kind);
        }
        refused("no FIELD of V", house.field(20, 1, 0, true, PUBLIC), 1);
    }

    private static void instanceFields() {
        HandleHouse house = check.sentence("(an INSTANCE has one of each FIELD that isn't STATIC of its CLASS and the PARENTS, also of those told later;");
        house.newClass(7, 0);
        house.newClass(20, 0);
        house.field(20, 1, 5, false, PUBLIC);
        int first = check.instance(21);
        int second = check.kept(house.find(21, 21, 0, check.type(0), 3));
        house.field(20, 2, 6, false, PUBLIC);
        house.field(21, 3, 7, false, PUBLIC);
        house.field(20, 4, 5, true, PUBLIC);
        check.comes("of its PARENT", house.find(21, 21, 1, 0, 6), 0, first, 11);
        check.comes("told later, of its PARENT", house.find(21, 21, 2, 0, 6), 0, first, 22);
        check.comes("told later, of its CLASS", house.find(21, 21, 3, 0, 5), 0, first, second);
        check.comes("a STATIC one", house.find(21, 21, 4, 0, 6), 0, 44);
        check.comes("each its own", house.find(21, 21, 1, 0, 4), 11, first);
        check.comes("each its own", house.find(21, 21, 2, 0, 4), 22, first);
        check.comesTo("each its own", 21, 0, house.find(21, 21, 3, 0, 4), first);
        check.comes("another INSTANCE has others", house.find(21, 21, 1, 0, 4), 0, second);
        check.comes("another INSTANCE has others", house.find(21, 21, 2, 0, 4), 0, second);
        check.comesTo("another INSTANCE has others", 0, 0, house.find(21, 21, 3, 0, 4), second);
        check.comes("the STATIC one is one", house.find(20, 20, 4, 0, 4), 44);
    }

    private static void twentyFourFields() {
        HandleHouse house = check.sentence("there are at most 24 such FIELDS of all CLASSES);");
        house.newClass(7, 0);
        house.newClass(20, 0);
        int instance = check.instance(21);
        int member = house.told(8);
        for (int i = 0; i < 24; i++) {
            found("FIELD " + i, house.field(20 + i % 2, 10 + i, 5, false, PUBLIC), member + 2 * i);
            found("STATIC ones don't count", house.field(20, 50 + i, 5, true, PUBLIC), member + 2 * i + 1);
        }
        refused("the 25th", house.field(20, 1, 5, false, PUBLIC), 5);
        refused("the 25th of another CLASS", house.field(21, 1, 5, false, PUBLIC), 5);
        check.due("no member", house.told(8), member + 48);
        found("a STATIC one", house.field(21, 1, 5, true, PUBLIC), member + 48);
        for (int i = 0; i < 24; i++) {
            check.comes("SET " + i, house.find(21, 21, 10 + i, 0, 5), 0, instance, 1000 + i);
        }
        for (int i = 0; i < 24; i++) {
            check.comes("GET " + i, house.find(21, 21, 10 + i, 0, 4), 1000 + i, instance);
        }
    }

    private static void methodHandles() {
        HandleHouse house = check.sentence("a METHOD has a HANDLE, whose PLACE 0 is the CLASS if it isn't STATIC, and a TYPE: that of the HANDLE, without"
            + " PLACE 0 if it isn't STATIC.");
        house.newClass(7, 0);
        house.newClass(20, 0);
        int h = check.empty(5, 20, 6);
        refused("PLACE 0 is another CLASS", house.method(21, 1, h, false, PUBLIC), 3);
        refused("no PLACE 0", house.method(20, 1, check.constant(5, 1), false, PUBLIC), 3);
        refused("the CLASS at PLACE 1", house.method(20, 1, check.empty(5, 6, 20), false, PUBLIC), 3);
        refused("O at PLACE 0", house.method(20, 1, check.empty(5, 7), false, PUBLIC), 3);
        int types = house.told(6);
        found("not STATIC", house.method(20, 1, h, false, PUBLIC), 0);
        check.due("its TYPE is made", house.told(6), types + 1);
        int without = check.type(5, 6);
        check.due("it was (J)I", without, types);
        check.hasType("found by it", house.find(20, 20, 1, without, 1), 5, 20, 6);
        refused("not by the HANDLE's", house.find(20, 20, 1, house.handle(h, 0), 1), 6);
        found("STATIC", house.method(21, 2, h, true, PUBLIC), 1);
        found("found by the HANDLE's", house.find(20, 21, 2, house.handle(h, 0), 0), h);
        refused("not without PLACE 0", house.find(20, 21, 2, without, 0), 6);
        found("STATIC of no PLACES", house.method(21, 3, check.constant(5, 1), true, PUBLIC), 2);
    }

    private static void makers() {
        HandleHouse house = check.sentence("A METHOD that isn't STATIC, with the name 0 and RESULT V is a MAKER.");
        house.newClass(7, 0);
        int ofV = check.empty(0, 20);
        int ofI = check.empty(5, 20);
        int none = check.type(0);
        house.method(20, 1, ofV, false, PUBLIC);
        refused("another name", house.find(20, 20, 1, none, 3), 6);
        check.due("is VIRTUAL", house.find(20, 20, 1, none, 1) >= 0, true);
        house.method(20, 0, ofI, false, PUBLIC);
        refused("another RESULT", house.find(20, 20, 0, check.type(5), 3), 6);
        check.due("is VIRTUAL", house.find(20, 20, 0, check.type(5), 1) >= 0, true);
        house.method(20, 0, check.empty(0), true, PUBLIC);
        refused("STATIC", house.find(20, 20, 0, none, 3), 6);
        check.due("is STATIC", house.find(20, 20, 0, none, 0) >= 0, true);
        refused("nothing VIRTUAL", house.find(20, 20, 0, none, 1), 6);
        house.method(20, 0, ofV, false, PUBLIC);
        check.due("a MAKER", house.find(20, 20, 0, none, 3) >= 0, true);
        refused("isn't VIRTUAL", house.find(20, 20, 0, none, 1), 6);
        refused("isn't SPECIAL", house.find(20, 20, 0, none, 2), 6);
    }

    /** Five classes: 20; 21 below it; 22 of its PACKAGE; 23 of another; 24 below 21, of the first's PACKAGE. */
    private static void fiveClasses(int rights, boolean... reached) {
        HandleHouse house = check.house;
        house.newClass(7, 1);
        house.newClass(20, 2);
        house.newClass(7, 1);
        house.newClass(7, 3);
        house.newClass(21, 1);
        int method = check.empty(5, 20);
        house.field(20, 1, 5, true, rights);
        house.method(20, 2, method, false, rights);
        for (int asker = 20; asker <= 24; asker++) {
            boolean due = reached[asker - 20];
            check.due(asker + " asks for a FIELD", house.find(asker, 20, 1, 0, 4) >= 0, due);
            check.due("its refusal", house.refused(), due ? 0 : 7);
            check.due(asker + " asks for a METHOD", house.find(asker, 20, 2, check.type(5), 1) >= 0, due);
            check.due("its refusal", house.refused(), due ? 0 : 7);
            check.due(asker + " asks for it in 24", house.find(asker, 24, 1, 0, 5) >= 0, due);
        }
    }

    /** Each CLASS asks for members of each with each of the RIGHTS. */
    private static void everyReach() {
        HandleHouse house = check.sentence("A CLASS REACHES a member of a CLASS d: PRIVATE: if it is d; PACKAGE: if the PACKAGES are the same; PROTECTED: if they are,"
            + " or it is BELOW d; PUBLIC: always.");
        int[] parents = {7, 20, 7, 21, 19, 24, 25};
        int[] packs = {5, 6, 6, 5, 7, 8, 5};
        for (int i = 0; i < parents.length; i++) {
            house.newClass(parents[i], packs[i]);
        }
        for (int of = 0; of < parents.length; of++) {
            for (int rights = PRIVATE; rights <= PUBLIC; rights++) {
                house.field(20 + of, of * 4 + rights, 5, true, rights);
            }
        }
        for (int asker = 0; asker < parents.length; asker++) {
            for (int of = 0; of < parents.length; of++) {
                boolean below = false;
                for (int kind = 20 + asker; kind >= 20; kind = parents[kind - 20]) {
                    below = below || kind == 20 + of;
                }
                boolean same = packs[asker] == packs[of];
                boolean[] due = {asker == of, same, same || below, true};
                for (int rights = PRIVATE; rights <= PUBLIC; rights++) {
                    check.due((20 + asker) + " asks " + (20 + of) + " for " + rights, house.find(20 + asker, 20 + of, of * 4 + rights, 0, 4) >= 0, due[rights]);
                    check.due("its refusal", house.refused(), due[rights] ? 0 : 7);
                }
            }
        }
        house = check.again();
        house.newClass(7, 3);
        house.field(20, 1, 5, true, PACKAGE);
        house.field(20, 2, 5, true, PROTECTED);
        found("one CLASS alone, PACKAGE", house.find(20, 20, 1, 0, 4), 0);
        found("one CLASS alone, PROTECTED", house.find(20, 20, 2, 0, 4), 1);
    }

    private static void privateReach() {
        check.sentence("A CLASS REACHES a member of a CLASS d: PRIVATE: if it is d;");
        fiveClasses(PRIVATE, true, false, false, false, false);
    }

    private static void packageReach() {
        check.sentence("PACKAGE: if the PACKAGES are the same;");
        fiveClasses(PACKAGE, true, false, true, false, true);
    }

    private static void protectedReach() {
        check.sentence("PROTECTED: if they are, or it is BELOW d;");
        fiveClasses(PROTECTED, true, true, true, false, true);
    }

    private static void publicReach() {
        check.sentence("PUBLIC: always.");
        fiveClasses(PUBLIC, true, true, true, true, true);
    }

    private static void findOrder() {
        HandleHouse house = check.sentence("TO FIND, for a CLASS who asks, a member of a CLASS by name, TYPE and WAY: the first that there is as told, by"
            + " rising numbers, in the CLASS, then in its PARENT, and so on: 6 there is none;");
        house.newClass(7, 0);
        house.newClass(20, 0);
        house.newClass(21, 0);
        refused("none", house.find(20, 22, 1, 0, 4), 6);
        int top = house.field(20, 1, 5, true, PUBLIC);
        house.field(20, 1, 6, true, PUBLIC);
        check.due("the first in the PARENT's PARENT", house.handle(house.find(20, 22, 1, 0, 4), 2), top);
        int middle = house.field(21, 1, 6, true, PUBLIC);
        check.due("then in its PARENT", house.handle(house.find(20, 22, 1, 0, 4), 2), middle);
        check.due("not below the CLASS", house.handle(house.find(20, 20, 1, 0, 4), 2), top);
        int own = house.field(22, 1, 7, true, PUBLIC);
        check.due("first in the CLASS", house.handle(house.find(20, 22, 1, 0, 4), 2), own);
        refused("another name", house.find(20, 22, 2, 0, 4), 6);
        int first = check.constant(5, 1);
        int second = check.constant(5, 2);
        int wide = check.constant(6, 3);
        house.method(22, 1, wide, true, PUBLIC);
        house.method(21, 1, first, true, PUBLIC);
        house.method(21, 1, second, true, PUBLIC);
        found("a METHOD by its TYPE, past one of another", house.find(20, 22, 1, check.type(5), 0), first);
        found("of the other TYPE", house.find(20, 22, 1, check.type(6), 0), wide);
        refused("none of that TYPE", house.find(20, 22, 1, check.type(7), 0), 6);
        refused("none of that WAY", house.find(20, 22, 1, check.type(5), 1), 6);
        refused("none in the PARENT alone", house.find(20, 20, 1, check.type(5), 0), 6);
    }

    private static void notReached() {
        HandleHouse house = check.sentence("7 it isn't REACHED.");
        house.newClass(7, 0);
        house.newClass(20, 1);
        house.newClass(7, 2);
        house.field(20, 1, 5, true, PUBLIC);
        house.field(21, 1, 5, true, PRIVATE);
        house.field(21, 2, 5, true, PRIVATE);
        house.field(21, 2, 5, true, PUBLIC);
        refused("the first isn't REACHED, though a PARENT's would be", house.find(22, 21, 1, 0, 4), 7);
        refused("nor though the next would be", house.find(22, 21, 2, 0, 4), 7);
        check.due("who REACHES it", house.find(21, 21, 2, 0, 4) >= 0, true);
        refused("6 ahead of it", house.find(22, 20, 2, 0, 4), 6);
    }

    private static void refusalsOfFinding() {
        HandleHouse house = check.sentence("6, 7 of finding;");
        house.newClass(7, 0);
        house.newClass(7, 1);
        house.field(20, 1, 5, true, PRIVATE);
        refused("1 ahead of 2", house.find(19, 20, 100, 0, 4), 1);
        refused("2 ahead of 6", house.find(20, 20, 100, 0, 4), 2);
        refused("6", house.find(20, 20, 2, 0, 4), 6);
        refused("6 of a CLASS that isn't BELOW", house.find(20, 21, 1, 0, 4), 6);
        refused("7", house.find(21, 20, 1, 0, 4), 7);
        check.fillTypes(300);
        refused("6 ahead of 4", house.find(20, 20, 2, 0, 7), 6);
        refused("7 ahead of 4", house.find(21, 20, 1, 0, 7), 7);
        refused("4", house.find(20, 20, 1, 0, 7), 4);
        check.fillHandles(500);
        refused("6 ahead of 5", house.find(20, 20, 2, 0, 4), 6);
        refused("7 ahead of 5", house.find(21, 20, 1, 0, 4), 7);
        refused("5", house.find(20, 20, 1, 0, 4), 5);
    }

    private static void staticMethods() {
        HandleHouse house = check.sentence("WAYS: 0 a STATIC METHOD of that TYPE: its HANDLE.");
        house.newClass(7, 0);
        int plus = check.make(3, 0, 5, 0);
        int self = check.self(20);
        house.method(20, 1, self, false, PUBLIC);
        house.method(20, 1, plus, true, PUBLIC);
        int handles = house.told(7);
        found("its HANDLE", house.find(20, 20, 1, house.handle(plus, 0), 0), plus);
        check.due("none is made", house.told(7), handles);
        refused("one that isn't STATIC", house.find(20, 20, 1, check.type(20), 0), 6);
        refused("a FIELD", house.find(20, 20, 1, 0, 4), 6);
        refused("no such TYPE", house.find(20, 20, 1, house.told(6), 0), 1);
        refused("TYPE -1", house.find(20, 20, 1, -1, 0), 1);
    }

    private static void virtualFound() {
        HandleHouse house = check.sentence("1 a METHOD that isn't STATIC and no MAKER, of that TYPE: VIRTUAL (b the CLASS): the CLASS and the TYPE's PLACES:");
        house.newClass(7, 0);
        house.newClass(20, 0);
        int ten = check.empty(6, 20, 5, 5, 5, 5, 5, 5, 5, 5, 5);
        int type = check.type(6, 5, 5, 5, 5, 5, 5, 5, 5, 5);
        int member = house.method(20, 4, ten, false, PUBLIC);
        int h = house.find(20, 21, 4, type, 1);
        check.hasType("ten PLACES", h, 6, 21, 5, 5, 5, 5, 5, 5, 5, 5, 5);
        check.due("FORM", house.handle(h, 1), 36);
        check.due("a", house.handle(h, 2), member);
        check.due("b the CLASS", house.handle(h, 3), 21);
        check.due("another for the PARENT", house.handle(house.find(20, 20, 4, type, 1), 3), 20);
        check.due("one for all who ask", house.find(21, 21, 4, type, 1), h);
        int minus = check.make(4, 0, check.type(0, 20), 0, check.make(3, 1, 5, 0));
        house.method(20, 6, minus, false, PUBLIC);
        int called = house.find(20, 21, 6, check.type(5, 5, 5), 1);
        int below = check.instance(21);
        check.comes("its values", called, 7, below, 10, 3);
        check.comes("other values", called, 60, below, 100, 40);
        house.method(20, 7, check.self(20), false, PUBLIC);
        check.comesTo("the OBJECT itself", 21, 0, house.find(20, 21, 7, check.type(20), 1), below);
        house.method(20, 5, check.constant(5, 1), true, PUBLIC);
        refused("a STATIC one", house.find(20, 20, 5, check.type(5), 1), 6);
        house.method(20, 0, check.empty(0, 20), false, PUBLIC);
        refused("a MAKER", house.find(20, 20, 0, check.type(0), 1), 6);
    }

    private static void virtualNull() {
        HandleHouse house = check.sentence("the CLASS and the TYPE's PLACES: NULL: ERROR 1; else, if what was found is PRIVATE,");
        house.newClass(7, 0);
        house.method(20, 4, answering(20, 8), false, PUBLIC);
        int h = house.find(20, 20, 4, check.type(5), 1);
        check.fails("NULL", h, 1, -1);
        check.due("nothing is called", house.told(1), 1);
        int object = check.instance(20);
        check.comes("an INSTANCE", h, 8, object);
        int within = check.make(4, 0, check.type(0, 7, 7), 0, h);
        check.fails("NULL within another CALL", within, 1, object, object, -1);
        check.comes("an INSTANCE within another CALL", within, 8, -1, -1, object);
    }

    private static void virtualPrivate() {
        HandleHouse house = check.sentence("if what was found is PRIVATE, its HANDLE is called,");
        house.newClass(7, 0);
        house.newClass(20, 0);
        house.method(20, 4, answering(20, 1), false, PRIVATE);
        house.method(20, 4, answering(20, 2), false, PUBLIC);
        house.method(21, 4, answering(21, 3), false, PUBLIC);
        int h = house.find(20, 20, 4, check.type(5), 1);
        check.comes("its HANDLE", h, 1, check.instance(21));
        check.comes("its HANDLE", h, 1, check.instance(20));
    }

    private static void virtualChosen() {
        HandleHouse house = check.sentence("else that of the first METHOD, from the OBJECT's CLASS on up to the one where it was found, in each by rising"
            + " numbers, that isn't STATIC, no MAKER and not PRIVATE, with this name and TYPE.");
        for (int kind = 20; kind <= 23; kind++) {
            house.newClass(kind == 20 ? 7 : kind - 1, 0);
        }
        int[] objects = new int[24];
        for (int kind = 20; kind <= 23; kind++) {
            objects[kind] = check.instance(kind);
        }
        house.method(20, 4, answering(20, 1), false, PUBLIC);
        house.method(21, 4, answering(21, 2), false, PACKAGE);
        int h = house.find(20, 21, 4, check.type(5), 1);
        check.fails("NULL", h, 1, -1);
        check.comes("where it was found", h, 2, objects[21]);
        check.comes("up to there", h, 2, objects[23]);
        house.method(23, 4, answering(23, 4), false, PRIVATE);
        house.method(23, 4, check.constant(5, 5), true, PUBLIC);
        house.method(23, 5, answering(23, 6), false, PUBLIC);
        house.method(23, 4, check.empty(5, 23, 5), false, PUBLIC);
        house.field(23, 4, 5, false, PUBLIC);
        check.comes("PRIVATE, STATIC, of another name or TYPE", h, 2, objects[23]);
        house.method(22, 4, answering(22, 7), false, PROTECTED);
        house.method(22, 4, answering(22, 8), false, PUBLIC);
        check.comes("a CLASS between, the first of it", h, 7, objects[23]);
        check.comes("of the CLASS itself", h, 7, objects[22]);
        check.comes("not for the CLASS above", h, 2, objects[21]);
        house.method(23, 4, answering(23, 9), false, PUBLIC);
        house.method(23, 4, answering(23, 10), false, PUBLIC);
        check.comes("the OBJECT's CLASS", h, 9, objects[23]);
        house.method(21, 4, answering(21, 11), false, PUBLIC);
        check.comes("told later where it was found", h, 2, objects[21]);
        house.method(23, 8, answering(23, 31), false, PUBLIC);
        house.method(20, 8, answering(20, 32), false, PUBLIC);
        house.method(22, 8, answering(22, 33), false, PUBLIC);
        check.comes("told ahead of the one that was found", house.find(20, 20, 8, check.type(5), 1), 31, objects[23]);
        check.comes("of the CLASS between", house.find(20, 20, 8, check.type(5), 1), 33, objects[22]);
        int top = house.find(20, 20, 4, check.type(5), 1);
        check.comes("found above", top, 1, objects[20]);
        check.comes("found above, called below", top, 2, objects[21]);
        check.due("STEPS", house.told(1), 3);
        int within = check.make(4, 0, check.type(0, 7, 7), 0, top);
        check.comes("the OBJECT of this CALL, within another", within, 2, objects[20], objects[20], objects[21]);
        for (int i = house.told(8); i < 100; i++) {
            house.field(20, 50, 5, true, PUBLIC);
        }
        check.comes("with all 100 members", top, 1, objects[20]);
        check.comes("with all 100 members, called below", top, 9, objects[23]);
        house = check.again();
        house.newClass(7, 0);
        house.newClass(20, 0);
        check.due("member 0 below", house.method(21, 4, answering(21, 5), false, PUBLIC), 0);
        house.method(20, 4, answering(20, 6), false, PUBLIC);
        check.comes("member 0", house.find(20, 20, 4, check.type(5), 1), 5, check.instance(21));
        house = check.again();
        house.newClass(7, 0);
        house.newClass(20, 0);
        int below = check.instance(21);
        house.method(21, 4, answering(21, 5), false, PUBLIC);
        check.due("the last member", house.method(20, 4, answering(20, 6), false, PUBLIC), house.told(8) - 1);
        check.comes("found as the last member", house.find(20, 20, 4, check.type(5), 1), 5, below);
        house = check.again();
        house.newClass(7, 0);
        house.newClass(20, 0);
        check.due("member 0 above", house.method(20, 4, answering(20, 6), false, PUBLIC), 0);
        house.method(21, 4, answering(21, 5), false, PUBLIC);
        check.comes("found as member 0", house.find(20, 20, 4, check.type(5), 1), 5, check.instance(21));
    }

    /** The members next to one, and the HANDLES next to its own, are others. */
    private static void neighbours() {
        HandleHouse house = check.sentence("FIELDS and METHODS of it are numbered from 0 on in one row, 100 at most;");
        house.newClass(7, 0);
        house.newClass(20, 0);
        house.newClass(7, 0);
        int second = check.make(5, 0, check.type(5, 20, 5, 5), 0, check.make(3, 1, 5, 0), 1, 2);
        check.due("no PLACES behind it", check.constant(5, 1), second + 1);
        house.field(22, 7, 6, true, PUBLIC);
        house.method(20, 4, second, false, PUBLIC);
        house.field(21, 4, 5, false, PUBLIC);
        house.field(21, 5, 7, true, PUBLIC);
        int kept = house.find(21, 21, 5, 0, 5);
        house.field(22, 0, 5, false, PUBLIC);
        int maker = check.make(5, 0, check.type(0, 21), 0, check.make(12, 0, check.type(0, 21), 0, kept), 0);
        house.method(21, 0, maker, false, PUBLIC);
        house.field(22, 9, 5, true, PUBLIC);
        int object = check.kept(house.find(21, 21, 0, check.type(0), 3));
        check.due("NEW, a FIELD ahead of its MAKER and one behind it", house.value(object, 0), 21);
        check.comesTo("the MAKER was called with it", 21, 0, house.find(21, 21, 5, 0, 4));
        int held = house.keep();
        check.comes("with the very INSTANCE", check.make(32, 0, 0, 0), 1, object, held);
        int h = house.find(20, 21, 4, check.type(5, 5, 5), 1);
        check.comes("VIRTUAL, a FIELD behind its METHOD", h, 3, object, 10, 7);
        check.comes("other values", h, 30, object, 100, 70);
        check.comes("SPECIAL", house.find(21, 20, 4, check.type(5, 5, 5), 2), 33, object, 110, 77);
        house.method(21, 4, check.make(5, 0, check.type(5, 21, 5, 5), 0, check.make(3, 2, 5, 0), 1, 2), false, PUBLIC);
        house.field(21, 4, 5, true, PUBLIC);
        check.comes("VIRTUAL, a FIELD behind the one that is called", h, 70, object, 10, 7);
        for (int i = house.told(8); i < 100; i++) {
            house.field(20, 50, 5, true, PUBLIC);
        }
        refused("no room", house.field(20, 50, 5, true, PUBLIC), 5);
        house = check.again();
        house.newClass(7, 0);
        for (int i = 0; i < 100; i++) {
            found("STATIC " + i, house.field(20, i, 6, true, PUBLIC), i);
        }
        for (int i = 97; i < 100; i++) {
            check.comes("ADD", house.find(20, 20, i, 0, 8), 0, 1000 + i);
        }
        for (int i = 97; i < 100; i++) {
            check.comes("GET", house.find(20, 20, i, 0, 4), 1000 + i);
        }
        check.comes("member 0 is another", house.find(20, 20, 0, 0, 4), 0);
    }

    private static void special() {
        HandleHouse house = check.sentence("2 likewise, but 7 also if who asks isn't BELOW the CLASS; SPECIAL (b who asks): who asks and the PLACES: NULL:"
            + " ERROR 1; else the found one's HANDLE is called.");
        for (int kind = 20; kind <= 22; kind++) {
            house.newClass(kind == 20 ? 7 : kind - 1, 0);
        }
        house.newClass(7, 0);
        int member = house.method(20, 4, answering(20, 1), false, PUBLIC);
        house.method(22, 4, answering(22, 3), false, PUBLIC);
        int type = check.type(5);
        refused("who asks is above the CLASS", house.find(20, 21, 4, type, 2), 7);
        refused("who asks is another CLASS", house.find(23, 20, 4, type, 2), 7);
        check.due("who asks is the CLASS", house.handle(house.find(21, 21, 4, type, 2), 3), 21);
        int h = house.find(22, 21, 4, type, 2);
        check.due("FORM", house.handle(h, 1), 37);
        check.due("a", house.handle(h, 2), member);
        check.due("b who asks", house.handle(h, 3), 22);
        check.hasType("SPECIAL", h, 5, 22);
        check.fails("NULL", h, 1, -1);
        check.due("nothing is called", house.told(1), 1);
        int object = check.instance(22);
        check.comes("the found one's HANDLE, not that of the OBJECT's CLASS", h, 1, object);
        int within = check.make(4, 0, check.type(0, 7, 7), 0, h);
        check.fails("NULL within another CALL", within, 1, object, object, -1);
        check.comes("within another CALL", within, 1, -1, -1, object);
        refused("6 ahead of 7", house.find(23, 20, 5, type, 2), 6);
        int minus = check.make(4, 0, check.type(0, 20), 0, check.make(3, 1, 5, 0));
        house.method(20, 8, minus, false, PUBLIC);
        int called = house.find(22, 20, 8, check.type(5, 5, 5), 2);
        check.hasType("its PLACES", called, 5, 22, 5, 5);
        check.comes("its values", called, 7, check.instance(22), 10, 3);
        check.comes("other values", called, 60, check.instance(22), 100, 40);
        house.method(20, 6, answering(20, 9), false, PRIVATE);
        refused("not REACHED", house.find(22, 20, 6, type, 2), 7);
        house.method(20, 0, check.empty(0, 20), false, PUBLIC);
        refused("no MAKER", house.find(20, 20, 0, check.type(0), 2), 6);
        house.method(20, 7, check.constant(5, 1), true, PUBLIC);
        refused("no STATIC one", house.find(20, 20, 7, type, 2), 6);
    }

    private static void newFound() {
        HandleHouse house = check.sentence("3 a MAKER of that TYPE (the name, too: 0) in the CLASS alone: NEW: its PLACES, the CLASS as RESULT:");
        house.newClass(7, 0);
        house.newClass(20, 0);
        int member = house.method(20, 0, check.empty(0, 20, 5, 7), false, PACKAGE);
        int type = check.type(0, 5, 7);
        int h = house.find(21, 20, 0, type, 3);
        check.hasType("NEW", h, 20, 5, 7);
        check.due("FORM", house.handle(h, 1), 38);
        check.due("a", house.handle(h, 2), member);
        check.due("b", house.handle(h, 3), 0);
        check.due("c", house.constant(h), 0);
        refused("another TYPE", house.find(20, 20, 0, check.type(0, 5), 3), 6);
        refused("another name", house.find(20, 20, 1, type, 3), 6);
        refused("in the CLASS alone", house.find(21, 21, 0, type, 3), 6);
        house.newClass(7, 1);
        refused("not REACHED", house.find(22, 20, 0, type, 3), 7);
        house.method(21, 0, check.empty(0, 21, 5, 5, 5, 5, 5, 5, 5, 5, 5), false, PUBLIC);
        check.hasType("nine PLACES", house.find(21, 21, 0, check.type(0, 5, 5, 5, 5, 5, 5, 5, 5, 5), 3), 21, 5, 5, 5, 5, 5, 5, 5, 5, 5);
    }

    private static void newCalls() {
        HandleHouse house = check.sentence("an INSTANCE is made, the HANDLE called with it, the INSTANCE is the RESULT.");
        house.newClass(7, 0);
        house.field(20, 1, 6, false, PUBLIC);
        int set = house.find(20, 20, 1, 0, 5);
        house.method(20, 0, set, false, PUBLIC);
        int h = house.find(20, 20, 0, check.type(0, 6), 3);
        int first = check.kept(h, Long.MIN_VALUE);
        check.due("STEPS", house.told(1), 2);
        int second = check.kept(h, 5);
        check.due("its kind", house.value(first, 0), 20);
        check.comes("the HANDLE was called with it", house.find(20, 20, 1, 0, 4), Long.MIN_VALUE, first);
        check.comes("and with the second", house.find(20, 20, 1, 0, 4), 5, second);
        check.comes("two INSTANCES", check.make(32, 0, 0, 0), 0, first, second);
        check.due("two were made", house.told(4), 2);
        int bad = check.make(7, 1, 0, 0, set, check.make(3, 3, 6, 0));
        house.method(20, 0, bad, false, PUBLIC);
        check.fails("a MAKER that THROWS", house.find(20, 20, 0, check.type(0, 6, 6), 3), 3, 1, 0);
        check.due("its INSTANCE counts", house.told(4), 3);
    }

    private static void fieldTypeNotLookedAt() {
        HandleHouse house = check.sentence("4 to 8 a FIELD (the TYPE isn't looked at, also when there is none such),");
        house.newClass(7, 0);
        house.field(20, 1, 5, true, PUBLIC);
        for (int way = 4; way <= 8; way++) {
            int h = house.find(20, 20, 1, 0, way);
            check.due("WAY " + way, house.handle(h, 3), way);
            for (int type : new int[] {Integer.MIN_VALUE, -1, 1, 299, 300, Integer.MAX_VALUE}) {
                found("TYPE " + type, house.find(20, 20, 1, type, way), h);
            }
        }
        refused("WAY 9", house.find(20, 20, 1, 0, 9), 1);
        refused("WAY -1", house.find(20, 20, 1, 0, -1), 1);
        refused("WAY 3 looks at it", house.find(20, 20, 1, -1, 3), 1);
        house.method(20, 2, check.self(5), true, PUBLIC);
        refused("a METHOD is no FIELD", house.find(20, 20, 2, 0, 4), 6);
    }

    private static void fieldForms() {
        HandleHouse house = check.sentence("of kind k, of an INSTANCE with the CLASS as PLACE 0 (NULL: ERROR 1):");
        house.newClass(7, 0);
        house.newClass(20, 0);
        house.field(20, 1, 6, false, PUBLIC);
        house.field(20, 2, 6, true, PUBLIC);
        int[][] places = {{}, {6}, {6}, {6, 6}, {6}};
        int[] results = {6, 0, 6, 1, 6};
        for (int way = 4; way <= 8; way++) {
            int h = house.find(20, 21, 1, 0, way);
            int[] own = places[way - 4];
            int[] all = new int[own.length + 1];
            all[0] = 21;
            System.arraycopy(own, 0, all, 1, own.length);
            check.hasType("of an INSTANCE", h, results[way - 4], all);
            check.hasType("STATIC", house.find(20, 21, 2, 0, way), results[way - 4], own);
            long[] values = new long[all.length];
            values[0] = -1;
            check.fails("NULL", h, 1, values);
        }
    }

    private static void fieldWays() {
        HandleHouse house = check.sentence("4 GET ()k, 5 SET (k)V, 6 SWAP (k)k, 7 TRY (k k)Z, 8 ADD (k)k of B, S, C, I, J alone (else 3, ahead of 7), as with"
            + " ELEMENTS,");
        house.newClass(7, 0);
        int instance = check.instance(20);
        house.field(20, 1, 5, false, PUBLIC);
        house.field(20, 2, 17, true, PUBLIC);
        check.comesTo("SET", 0, 0, house.find(20, 20, 1, 0, 5), instance, 7);
        check.comes("GET", house.find(20, 20, 1, 0, 4), 7, instance);
        check.due("one STEP", house.told(1), 1);
        check.comes("SWAP comes to the one that was there", house.find(20, 20, 1, 0, 6), 7, instance, 8);
        check.comes("TRY of another", house.find(20, 20, 1, 0, 7), 0, instance, 7, 9);
        check.comes("it stays", house.find(20, 20, 1, 0, 4), 8, instance);
        check.comes("TRY", house.find(20, 20, 1, 0, 7), 1, instance, 8, 9);
        check.comes("ADD comes to the one that was there", house.find(20, 20, 1, 0, 8), 9, instance, 10);
        check.comes("it was added", house.find(20, 20, 1, 0, 4), 19, instance);
        int row = check.row(17, 3);
        check.comes("TRY of NULL", house.find(20, 20, 2, 0, 7), 1, -1, row);
        check.comes("TRY of NULL again", house.find(20, 20, 2, 0, 7), 0, -1, -1);
        check.comesTo("SWAP with NULL", 17, 3, house.find(20, 20, 2, 0, 6), -1);
        check.comesTo("GET of NULL", 0, 0, house.find(20, 20, 2, 0, 4));
    }

    private static void fieldAdd() {
        HandleHouse house = check.sentence("as with ELEMENTS, bounds of k wrap.");
        house.newClass(7, 0);
        long[][] bounds = {{2, -128, 127}, {3, -32768, 32767}, {4, 0, 65535}, {5, Integer.MIN_VALUE, Integer.MAX_VALUE}, {6, Long.MIN_VALUE, Long.MAX_VALUE}};
        for (long[] row : bounds) {
            int kind = (int) row[0];
            house.field(20, kind, kind, true, PUBLIC);
            int add = house.find(20, 20, kind, 0, 8);
            int get = house.find(20, 20, kind, 0, 4);
            check.comes("the highest", add, 0, row[2]);
            check.comes("one more", add, row[2], 1);
            check.comes("is the lowest", get, row[1]);
            if (kind != 4) {
                check.comes("one less", add, row[1], -1);
                check.comes("is the highest", get, row[2]);
            } else {
                check.comes("twice the highest", add, 0, 65535);
                check.comes("twice the highest", add, 65535, 65535);
                check.comes("wraps", get, 65534);
            }
        }
    }

    private static void fieldAddKinds() {
        HandleHouse house = check.sentence("8 ADD (k)k of B, S, C, I, J alone (else 3, ahead of 7),");
        house.newClass(7, 0);
        house.newClass(7, 1);
        for (int kind = 1; kind <= 20; kind++) {
            house.field(20, kind, kind, true, PRIVATE);
            boolean may = kind >= 2 && kind <= 6;
            check.due("kind " + kind, house.find(20, 20, kind, 0, 8) >= 0, may);
            check.due("its refusal", house.refused(), may ? 0 : 3);
            refused("not REACHED", house.find(21, 20, kind, 0, 8), may ? 7 : 3);
            check.due("SWAP of " + kind, house.find(20, 20, kind, 0, 6) >= 0, true);
        }
        refused("none", house.find(20, 20, 99, 0, 8), 6);
    }

    private static void fieldClass() {
        HandleHouse house = check.sentence("(FIELD's c: the CLASS, or 0 for a STATIC one.)");
        house.newClass(7, 0);
        house.newClass(20, 0);
        int member = house.field(20, 1, 5, false, PUBLIC);
        int fixed = house.field(20, 2, 5, true, PUBLIC);
        int upper = house.find(20, 20, 1, 0, 4);
        int lower = house.find(20, 21, 1, 0, 4);
        check.due("the CLASS", house.constant(upper), 20);
        check.due("the CLASS below", house.constant(lower), 21);
        check.due("a", house.handle(lower, 2), member);
        check.due("two HANDLES", upper == lower, false);
        int one = house.find(20, 20, 2, 0, 4);
        check.due("STATIC", house.constant(one), 0);
        check.due("a", house.handle(one, 2), fixed);
        check.due("by the CLASS below the same HANDLE", house.find(20, 21, 2, 0, 4), one);
    }

    private static void fieldRefused() {
        HandleHouse house = check.sentence("A new FIELD: its number. NONE, refused: 1 no such CLASS or kind (V is none), 2 name or RIGHTS,");
        house.newClass(7, 0);
        for (int of : new int[] {Integer.MIN_VALUE, -1, 7, 19, 21, 32}) {
            refused("CLASS " + of, house.field(of, 100, 5, true, 9), 1);
        }
        for (int kind : new int[] {Integer.MIN_VALUE, -1, 0, 21, 32}) {
            refused("kind " + kind, house.field(20, 100, kind, true, 9), 1);
        }
        refused("name -1", house.field(20, -1, 5, true, PUBLIC), 2);
        refused("name 100", house.field(20, 100, 5, true, PUBLIC), 2);
        refused("RIGHTS -1", house.field(20, 1, 5, true, -1), 2);
        refused("RIGHTS 4", house.field(20, 1, 5, true, 4), 2);
        check.due("none was made", house.told(8), 0);
        found("the first", house.field(20, 0, 1, true, PRIVATE), 0);
        found("one with the same name", house.field(20, 0, 20, false, PUBLIC), 1);
    }

    private static void fieldRoom() {
        HandleHouse house = check.sentence("5 no room (100 members, or 24 FIELDS that aren't STATIC).");
        house.newClass(7, 0);
        for (int i = 0; i < 24; i++) {
            found("FIELD " + i, house.field(20, i, 5, false, PUBLIC), i);
        }
        refused("the 25th that isn't STATIC", house.field(20, 1, 5, false, PUBLIC), 5);
        refused("2 ahead of it", house.field(20, 100, 5, false, PUBLIC), 2);
        for (int i = 24; i < 100; i++) {
            found("STATIC " + i, house.field(20, i, 5, true, PUBLIC), i);
        }
        refused("the 101st", house.field(20, 1, 5, true, PUBLIC), 5);
        check.due("100", house.told(8), 100);
        found("the last is found", house.find(20, 20, 99, -1, 4), 0);
        refused("none of them all", house.find(20, 20, 1, check.type(5), 1), 6);
    }

    private static void methodRefused() {
        HandleHouse house = check.sentence("A new METHOD: its number. NONE, refused: 1 no such CLASS or HANDLE, 2 name or RIGHTS, 3 PLACE 0 isn't the CLASS (not"
            + " STATIC),");
        house.newClass(7, 0);
        int h = check.self(20);
        int other = check.self(5);
        for (int of : new int[] {Integer.MIN_VALUE, -1, 7, 19, 21, 32}) {
            refused("CLASS " + of, house.method(of, 100, h, true, 9), 1);
        }
        for (int handle : new int[] {Integer.MIN_VALUE, -1, 2, 500}) {
            refused("HANDLE " + handle, house.method(20, 100, handle, true, 9), 1);
        }
        refused("name -1", house.method(20, -1, other, false, PUBLIC), 2);
        refused("name 100", house.method(20, 100, other, false, PUBLIC), 2);
        refused("RIGHTS -1", house.method(20, 1, other, false, -1), 2);
        refused("RIGHTS 4", house.method(20, 1, other, false, 4), 2);
        refused("PLACE 0", house.method(20, 1, other, false, PUBLIC), 3);
        int types = house.told(6);
        check.due("no TYPE, no member", house.told(8) + types, 2);
        found("STATIC", house.method(20, 1, other, true, PUBLIC), 0);
        found("not STATIC", house.method(20, 1, h, false, PUBLIC), 1);
    }

    private static void methodRoom() {
        HandleHouse house = check.sentence("4 no room for the TYPE without it, 5 there are 100 members.");
        house.newClass(7, 0);
        int h = check.empty(6, 20, 19, 19);
        int known = check.empty(6, 20, 17);
        check.type(6, 17);
        check.fillTypes(300);
        for (int i = 0; i < 99; i++) {
            house.field(20, i, 5, true, PUBLIC);
        }
        refused("no room for (E E)J", house.method(20, 1, h, false, PUBLIC), 4);
        check.due("no member", house.told(8), 99);
        found("STATIC needs none; the 100th", house.method(20, 1, h, true, PUBLIC), 99);
        refused("4 ahead of 5", house.method(20, 1, h, false, PUBLIC), 4);
        refused("a TYPE that there is", house.method(20, 1, known, false, PUBLIC), 5);
        refused("STATIC", house.method(20, 1, h, true, PUBLIC), 5);
        house = check.fresh("4 no room for the TYPE: none is made at 5");
        house.newClass(7, 0);
        h = check.empty(6, 20, 19, 19);
        for (int i = 0; i < 100; i++) {
            house.field(20, i, 5, true, PUBLIC);
        }
        refused("5", house.method(20, 1, h, false, PUBLIC), 5);
        check.due("no TYPE", house.told(6), 1);
    }

    private static void finding() {
        HandleHouse house = check.sentence("FINDS: the HANDLE; NONE, refused.");
        house.newClass(7, 0);
        house.field(20, 1, 5, true, PUBLIC);
        house.field(20, 2, 6, true, PUBLIC);
        check.due("the HANDLE", house.find(20, 20, 1, 0, 4), 0);
        check.due("the same again", house.find(20, 20, 1, 0, 4), 0);
        check.due("one HANDLE", house.told(7), 1);
        refused("who asks is no CLASS", house.find(7, 20, 1, 0, 4), 1);
        refused("of no CLASS", house.find(20, 19, 1, 0, 4), 1);
        check.fillTypes(300);
        refused("4 no room for its TYPE", house.find(20, 20, 1, 0, 7), 4);
        check.fillHandles(500);
        check.due("500", house.told(7), 500);
        refused("4 ahead of 5", house.find(20, 20, 1, 0, 7), 4);
        refused("5 no room for it", house.find(20, 20, 2, 0, 4), 5);
        check.due("what was made is found", house.find(20, 20, 1, 0, 4), 0);
    }
}
