/** Promises 6, 7, 8 and 12: handles are made, told about, refused, and come out as simpler ones. */
public final class MakeTest {
    private static final Check check = new Check("MakeTest");

    public static void main(String[] args) {
        about();
        firstForms();
        constants();
        placeForms();
        givingForms();
        rowForms();
        asForms();
        branchForms();
        loops();
        invokingForms();
        simpler();
        sameOnes();
        notLookedAt();
        order();
        room();
        check.end();
    }

    private static void about() {
        HandleHouse house = check.fresh("promise 7");
        int plus = check.make(3, 0, 5, 99);
        int bound = check.make(6, 1, 77, 3, plus);
        check.due("type", house.typeAbout(house.handle(bound, 0), -2), 1);
        check.due("form", house.handle(bound, 1), 6);
        check.due("a", house.handle(bound, 2), 1);
        check.due("b that it hasn't", house.handle(bound, 3), 0);
        check.due("b that it has", house.handle(plus, 3), 5);
        check.due("how many parts", house.handle(bound, 4), 1);
        check.due("part 0", house.handle(bound, 5), plus);
        check.due("part 1", house.handle(bound, 6), -1);
        check.due("what -1", house.handle(bound, -1), -1);
        check.due("what at the edge", house.handle(bound, Integer.MAX_VALUE), -1);
        check.due("no such handle", house.handle(2, 0), -1);
        for (int what = 0; what <= 6; what++) {
            check.due("handle -1, what " + what, house.handle(-1, what), -1);
            check.due("handle 99, what " + what, house.handle(99, what), -1);
        }
        check.fresh("promise 8");
        house = check.house;
        plus = check.make(3, 0, 5, 99);
        bound = check.make(6, 1, 77, Integer.MIN_VALUE, plus);
        int wide = check.constant(6, Long.MIN_VALUE);
        check.due("c", house.constant(bound), Integer.MIN_VALUE);
        check.due("a c of J", house.constant(wide), Long.MIN_VALUE);
        check.due("c that it hasn't", house.constant(plus), 0);
        check.due("no such handle", house.constant(99), 0);
        check.due("handle -1", house.constant(-1), 0);
    }

    private static void firstForms() {
        HandleHouse house = check.fresh("promise 6");
        house.newClass(7, 0);
        house.newClass(19, 0);
        int self = check.make(2, 5, 0, 0);
        check.hasType("HANDLE", check.make(1, 0, 0, 0, self), 18);
        check.hasType("SELF", self, 5, 5);
        for (int op = 0; op <= 10; op++) {
            check.hasType("OPERATION " + op, check.make(3, op, 6, 0), 6, 6, 6);
        }
        check.hasType("less", check.make(3, 11, 5, 0), 1, 5, 5);
        check.hasType("equal", check.make(3, 12, 6, 0), 1, 6, 6);
        check.hasType("THROW", check.make(19, 5, 21, 0), 5, 21);
        check.hasType("THROW of V", check.make(19, 0, 19, 0), 0, 19);
        check.hasType("IS", check.make(31, 20, 0, 0), 1, 7);
        check.hasType("SAME", check.make(32, 0, 0, 0), 1, 7, 7);
        check.hasType("CODE", check.make(33, 0, 0, 0), 5, 19);
        int type = check.type(6, 1, 2, 3);
        check.hasType("EMPTY", check.make(34, 0, type, 0), 6, 1, 2, 3);
        for (int form : new int[] {-1, 35, 36, 37, 38, 39, Integer.MIN_VALUE, Integer.MAX_VALUE}) {
            check.refused("FORM " + form, 1, form, 0, 0, 0);
        }
        check.refused("HANDLE of none", 1, 1, 0, 0, 0);
        check.refused("HANDLE of -1", 1, 1, 0, 0, 0, -1);
        check.refused("HANDLE of one that isn't there", 1, 1, 0, 0, 0, 500);
        check.refused("SELF of V", 1, 2, 0, 0, 0);
        check.refused("SELF of 22", 1, 2, 22, 0, 0);
        check.refused("SELF with a part", 1, 2, 5, 0, 0, self);
        check.refused("OPERATION 13", 1, 3, 13, 5, 0);
        check.refused("OPERATION -1", 1, 3, -1, 5, 0);
        check.refused("OPERATION on S", 1, 3, 0, 3, 0);
        check.refused("THROW of I", 1, 19, 5, 5, 0);
        check.refused("THROW of O", 1, 19, 5, 7, 0);
        check.refused("THROW of a class below O", 1, 19, 5, 20, 0);
        check.refused("THROW to no kind", 1, 19, 22, 19, 0);
        check.refused("IS I", 1, 31, 5, 0, 0);
        check.refused("IS V", 1, 31, 0, 0, 0);
        check.refused("IS 22", 1, 31, 22, 0, 0);
        check.refused("EMPTY of no type", 1, 34, 0, 999, 0);
        check.due("a handle that is made", check.make(33, 0, 0, 0) >= 0, true);
        check.due("refused() behind one that was made", house.refused(), 0);
    }

    private static void constants() {
        HandleHouse house = check.fresh("promise 6");
        long[][] bounds = {{0, 1}, {-128, 127}, {-32768, 32767}, {0, 65535},
            {Integer.MIN_VALUE, Integer.MAX_VALUE}, {Long.MIN_VALUE, Long.MAX_VALUE}};
        for (int kind = 1; kind <= 6; kind++) {
            long low = bounds[kind - 1][0];
            long high = bounds[kind - 1][1];
            check.hasType("CONSTANT of " + kind, check.constant(kind, low), kind);
            check.comes("its number", check.constant(kind, high), high);
            if (kind < 6) {
                check.refused("below " + kind, 2, 0, kind, 0, low - 1);
                check.refused("above " + kind, 2, 0, kind, 0, high + 1);
            }
        }
        check.refused("of V", 1, 0, 0, 0, 0);
        check.refused("of no kind", 1, 0, 20, 0, -1);
        check.hasType("NULL", check.constant(15, -1), 15);
        check.refused("no such VALUE", 1, 0, 7, 0, 0);
        check.refused("VALUE -2", 1, 0, 7, 0, -2);
        check.due("a row", check.kept(check.make(20, 15, 0, 0), 2), 0);
        check.hasType("that VALUE", check.constant(15, 0), 15);
        check.hasType("that VALUE as O", check.constant(7, 0), 7);
        check.refused("that VALUE as another ROW", 3, 0, 16, 0, 0);
        check.refused("a VALUE beyond int", 1, 0, 15, 0, 1L << 32);
        check.due("its c", house.constant(check.constant(7, 0)), 0);
    }

    private static void placeForms() {
        check.fresh("promise 6");
        int less = check.make(3, 11, 5, 0);
        int jo = check.type(0, 6, 7);
        check.hasType("DROP at 0", check.make(4, 0, jo, 0, less), 1, 6, 7, 5, 5);
        check.hasType("DROP at 1", check.make(4, 1, jo, 0, less), 1, 5, 6, 7, 5);
        check.hasType("DROP at the end", check.make(4, 2, jo, 0, less), 1, 5, 5, 6, 7);
        check.refused("DROP at 3", 2, 4, 3, jo, 0, less);
        check.refused("DROP at -1", 2, 4, -1, jo, 0, less);
        check.refused("DROP of no type", 1, 4, 0, 99, 0, less);
        check.refused("DROP of no handle", 1, 4, 0, jo, 0, 99);
        check.refused("DROP with two parts", 1, 4, 0, jo, 0, less, less);
        int nine = check.type(1, 5, 5, 5, 5, 5, 5, 5, 5, 5);
        check.refused("DROP to eleven places", 4, 4, 0, nine, 0, less);

        int moved = check.type(1, 6, 5);
        check.hasType("MOVE", check.make(5, 0, moved, 0, less, 1, 1), 1, 6, 5);
        check.refused("MOVE by another kind", 3, 5, 0, moved, 0, less, 0, 1);
        check.refused("MOVE by no number", 2, 5, 0, moved, 0, less, 2, 1);
        check.refused("MOVE by -1", 2, 5, 0, moved, 0, less, -1, 1);
        check.refused("MOVE with too few parts", 1, 5, 0, moved, 0, less, 1);
        check.refused("MOVE with too many parts", 1, 5, 0, moved, 0, less, 1, 1, 1);
        check.refused("MOVE without parts", 1, 5, 0, moved, 0);
        check.refused("MOVE to another result", 3, 5, 0, check.type(5, 5), 0, less, 0, 0);
        check.refused("MOVE to no type", 1, 5, 0, 99, 0, less, 0, 0);

        check.hasType("BIND", check.make(6, 0, 0, 5, less), 1, 5);
        check.refused("BIND place 2", 2, 6, 2, 0, 5, less);
        check.refused("BIND place -1", 2, 6, -1, 0, 5, less);
        check.refused("BIND out of bounds", 2, 6, 0, 0, 1L << 40, less);
        check.refused("BIND no handle", 1, 6, 0, 0, 5, 99);
        int same = check.make(32, 0, 0, 0);
        check.refused("BIND no VALUE", 1, 6, 0, 0, 0, same);
        check.hasType("BIND NULL", check.make(6, 0, 0, -1, same), 1, 7);
        check.kept(check.make(20, 15, 0, 0), 2);
        check.refused("BIND a VALUE of another kind", 3, 6, 0, 0, 0, check.make(21, 16, 0, 0));
        check.hasType("BIND a VALUE", check.make(6, 0, 0, 0, check.make(21, 15, 0, 0)), 5);
    }

    private static void givingForms() {
        check.fresh("promise 6");
        int less = check.make(3, 11, 5, 0);
        int code = check.make(33, 0, 0, 0);
        int set = check.make(23, 15, 0, 0);
        check.hasType("COLLECT at 0", check.make(7, 0, 0, 0, less, code), 1, 19, 5);
        check.hasType("COLLECT at 1", check.make(7, 1, 0, 0, less, code), 1, 5, 19);
        check.hasType("COLLECT of V", check.make(7, 2, 0, 0, less, set), 1, 5, 5, 15, 5, 5);
        check.refused("COLLECT at 2", 2, 7, 2, 0, 0, less, code);
        check.refused("COLLECT of V at 3", 2, 7, 3, 0, 0, less, set);
        check.refused("COLLECT of another kind", 3, 7, 0, 0, 0, less, less);
        check.refused("COLLECT with one part", 1, 7, 0, 0, 0, less);
        check.refused("COLLECT with no such part", 1, 7, 0, 0, 0, less, -1);

        check.hasType("FOLD", check.make(8, 0, 0, 0, set, check.make(20, 15, 0, 0)), 0, 5, 5);
        check.hasType("FOLD of V", check.make(8, 0, 0, 0, check.make(24, 15, 0, 0), set), 5, 15, 5, 5);
        check.hasType("FOLD of a constant", check.make(8, 1, 0, 0, less, check.constant(5, 1)), 1, 5);
        check.refused("FOLD, other places", 3, 8, 0, 0, 0, less, code);
        check.refused("FOLD, too many places", 3, 8, 1, 0, 0, less, check.make(2, 5, 0, 0));
        check.refused("FOLD at 2", 2, 8, 2, 0, 0, less, check.constant(5, 1));
        check.refused("FOLD of another kind", 3, 8, 0, 0, 0, less, check.constant(6, 1));
        check.refused("FOLD of V, other places", 3, 8, 0, 0, 0, less, set);

        check.hasType("RESULT", check.make(9, 0, 0, 0, code, check.make(20, 17, 0, 0)), 17, 19);
        check.hasType("RESULT of V", check.make(9, 0, 0, 0, set, check.constant(6, 4)), 6, 15, 5, 5);
        check.refused("RESULT of V with a place", 3, 9, 0, 0, 0, set, code);
        check.refused("RESULT of another kind", 3, 9, 0, 0, 0, less, code);
        check.refused("RESULT with two places", 3, 9, 0, 0, 0, code, less);
        check.refused("RESULT with no place", 3, 9, 0, 0, 0, code, check.constant(5, 1));
    }

    private static void rowForms() {
        check.fresh("promise 6");
        int[] elements = {5, 6, 7};
        for (int row = 15; row <= 17; row++) {
            int e = elements[row - 15];
            check.hasType("NEW ROW", check.make(20, row, 0, 0), row, 5);
            check.hasType("SIZE", check.make(21, row, 0, 0), 5, row);
            check.hasType("GET", check.make(22, row, 0, 0), e, row, 5);
            check.hasType("SET", check.make(23, row, 0, 0), 0, row, 5, e);
            check.hasType("SWAP", check.make(24, row, 0, 0), e, row, 5, e);
            check.hasType("TRY", check.make(25, row, 0, 0), 1, row, 5, e, e);
        }
        check.hasType("ADD", check.make(26, 16, 0, 0), 6, 16, 5, 6);
        check.refused("ADD of O", 1, 26, 17, 0, 0);
        for (int form = 20; form <= 26; form++) {
            check.refused("no ROW in " + form, 1, form, 18, 0, 0);
            check.refused("V in " + form, 1, form, 0, 0, 0);
        }
        int plus = check.make(3, 0, 5, 0);
        check.hasType("SPREAD 2", check.make(10, 15, 2, 0, plus), 5, 15);
        check.hasType("SPREAD 1", check.make(10, 15, 1, 0, plus), 5, 5, 15);
        check.hasType("SPREAD 0", check.make(10, 17, 0, 0, plus), 5, 5, 5, 17);
        check.refused("SPREAD 3", 2, 10, 15, 3, 0, plus);
        check.refused("SPREAD -1", 2, 10, 15, -1, 0, plus);
        check.refused("SPREAD of other elements", 3, 10, 16, 1, 0, plus);
        check.refused("SPREAD of no ROW", 1, 10, 5, 1, 0, plus);
        int sum = check.make(22, 15, 0, 0);
        int last = check.make(21, 16, 0, 0);
        check.hasType("GATHER 3", check.make(11, 0, 3, 0, last), 5, 6, 6, 6);
        check.hasType("GATHER 0", check.make(11, 0, 0, 0, last), 5);
        check.hasType("GATHER 10", check.make(11, 0, 10, 0, last), 5, 6, 6, 6, 6, 6, 6, 6, 6, 6, 6);
        check.refused("GATHER 11", 2, 11, 0, 11, 0, last);
        check.refused("GATHER -1", 2, 11, 0, -1, 0, last);
        check.refused("GATHER without a ROW", 3, 11, 0, 1, 0, sum);
        check.refused("GATHER without a place", 3, 11, 0, 1, 0, check.constant(5, 1));
        int ten = check.make(34, 0, check.type(0, 5, 5, 5, 5, 5, 5, 5, 5, 5, 5), 0);
        check.refused("SPREAD to eleven", 4, 10, 15, 0, 0, ten);
        int eight = check.make(34, 0, check.type(0, 5, 5, 5, 5, 5, 5, 5, 17), 0);
        check.refused("GATHER to eleven", 4, 11, 0, 4, 0, eight);
    }

    private static void asForms() {
        check.fresh("promise 6");
        int plus = check.make(3, 0, 5, 0);
        int wide = check.type(6, 2, 7);
        check.hasType("AS", check.make(12, 0, wide, 0, plus), 6, 2, 7);
        check.hasType("AS of V", check.make(12, 0, check.type(0, 5, 5), 0, plus), 0, 5, 5);
        check.hasType("AS from V", check.make(12, 0, check.type(17, 15, 5, 5), 0, check.make(23, 15, 0, 0)), 17, 15, 5, 5);
        check.refused("AS with fewer places", 3, 12, 0, check.type(5, 5), 0, plus);
        check.refused("AS from J", 3, 12, 0, check.type(5, 6, 5), 0, plus);
        check.refused("AS to S", 3, 12, 0, check.type(3, 5, 5), 0, plus);
        check.refused("AS of no type", 1, 12, 0, -1, 0, plus);
        check.hasType("FORCED", check.make(13, 0, check.type(3, 6, 8), 0, plus), 3, 6, 8);
        check.refused("FORCED from E", 3, 13, 0, check.type(5, 19, 5), 0, plus);
        check.refused("FORCED to another box", 3, 13, 0, check.type(14, 5, 5), 0, plus);
        check.refused("FORCED of no type", 1, 13, 0, 99, 0, plus);
    }

    private static void branchForms() {
        HandleHouse house = check.fresh("promise 6");
        int less = check.make(3, 11, 5, 0);
        int plus = check.make(3, 0, 5, 0);
        int minus = check.make(3, 1, 5, 0);
        int code = check.make(33, 0, 0, 0);
        check.hasType("GUARD", check.make(14, 0, 0, 0, less, plus, minus), 5, 5, 5);
        check.hasType("GUARD of no places", check.make(14, 0, 0, 0, check.constant(1, 1), code, code), 5, 19);
        check.refused("GUARD by I", 3, 14, 0, 0, 0, plus, plus, minus);
        check.refused("GUARD of two types", 3, 14, 0, 0, 0, less, plus, less);
        check.refused("GUARD of fewer places", 3, 14, 0, 0, 0, less, code, code);
        check.refused("GUARD of two", 1, 14, 0, 0, 0, less, plus);

        int caught = check.make(4, 1, check.type(0, 5), 0, code);
        check.hasType("CATCH", check.make(15, 19, 0, 0, plus, code), 5, 5, 5);
        check.hasType("CATCH with a place", check.make(15, 19, 0, 0, plus, caught), 5, 5, 5);
        check.refused("CATCH of O", 1, 15, 7, 0, 0, plus, code);
        check.refused("CATCH of no kind", 1, 15, 20, 0, 0, plus, code);
        check.refused("CATCH by another place", 3, 15, 19, 0, 0, plus, plus);
        check.refused("CATCH to another result", 3, 15, 19, 0, 0, less, code);
        check.refused("CATCH with another place", 3, 15, 19, 0, 0, check.make(21, 15, 0, 0), caught);
        check.refused("CATCH without a place", 3, 15, 19, 0, 0, plus, check.constant(5, 1));
        house.newClass(19, 0);
        check.refused("CATCH of a class by E", 3, 15, 20, 0, 0, plus, code);

        int last = check.make(4, 1, check.type(0, 5), 0, code);
        int lastOfV = check.make(34, 0, check.type(0, 19), 0);
        check.hasType("FINALLY", check.make(16, 0, 0, 0, plus, last), 5, 5, 5);
        check.hasType("FINALLY of V", check.make(16, 0, 0, 0, check.make(23, 15, 0, 0), lastOfV), 0, 15, 5, 5);
        check.refused("FINALLY without its result", 3, 16, 0, 0, 0, plus, code);
        check.refused("FINALLY without E", 3, 16, 0, 0, 0, plus, minus);
        check.refused("FINALLY of V with I", 3, 16, 0, 0, 0, check.make(23, 15, 0, 0), last);
        int ofJ = check.make(34, 0, check.type(5, 19, 6), 0);
        check.refused("FINALLY with another place of the result", 3, 16, 0, 0, 0, plus, ofJ);
        int behind = check.make(34, 0, check.type(5, 19, 5, 6), 0);
        check.refused("FINALLY with another place behind", 3, 16, 0, 0, 0, plus, behind);
        int many = check.make(34, 0, check.type(5, 19, 5, 5, 5, 5), 0);
        check.refused("FINALLY with a place too many", 3, 16, 0, 0, 0, plus, many);
        int toJ = check.make(34, 0, check.type(6, 19, 5), 0);
        check.refused("FINALLY with another result", 3, 16, 0, 0, 0, plus, toJ);

        check.hasType("SWITCH", check.make(17, 0, 0, 0, plus, minus, plus), 5, 5, 5);
        check.hasType("SWITCH of one", check.make(17, 0, 0, 0, plus), 5, 5, 5);
        check.refused("SWITCH of none", 1, 17, 0, 0, 0);
        check.refused("SWITCH of two types", 3, 17, 0, 0, 0, plus, less);
        check.refused("SWITCH without I", 3, 17, 0, 0, 0, code);
        check.refused("SWITCH without a place", 3, 17, 0, 0, 0, check.constant(5, 1));
        check.refused("SWITCH with no such one", 1, 17, 0, 0, 0, plus, -1);

        house.point();
        check.hasType("POINT", check.make(30, 0, 0, 0, plus, minus), 5, 5, 5);
        check.refused("POINT of two types", 3, 30, 0, 0, 0, plus, less);
        check.refused("no such POINT", 1, 30, 1, 0, 0, plus, minus);
        check.refused("POINT -1", 1, 30, -1, 0, 0, plus, minus);
    }

    private static void loops() {
        HandleHouse house = check.fresh("promise 6");
        int type = check.type(5, 5, 6);
        int plus = check.make(3, 0, 5, 0);
        int less = check.make(3, 11, 5, 0);
        int zero = check.constant(5, 0);
        int self = check.make(2, 5, 0, 0);
        int loop = check.make(18, 0, type, 0, zero, plus, less, self);
        check.hasType("LOOP", loop, 5, 5, 6);
        check.due("its parts", house.handle(loop, 4), 4);
        loop = check.make(18, 0, type, 0, -1, plus, -1, -1, -1, -1, less, -1);
        check.hasType("LOOP of two clauses", loop, 5, 5, 6);
        check.due("a part that is none", house.handle(loop, 5), -1);
        check.due("a part behind them", house.handle(loop, 13), -1);
        check.refused("LOOP of no clause", 1, 18, 0, type, 0);
        check.refused("LOOP of three parts", 1, 18, 0, type, 0, zero, plus, less);
        check.refused("LOOP of five clauses", 1, 18, 0, type, 0,
            -1, -1, less, -1, -1, -1, less, -1, -1, -1, less, -1, -1, -1, less, -1, -1, -1, less, -1);
        check.refused("LOOP of part -2", 1, 18, 0, type, 0, -2, plus, less, self);
        check.refused("LOOP of no type", 1, 18, 0, 99, 0, zero, plus, less, self);
        check.refused("LOOP without TEST", 3, 18, 0, type, 0, zero, plus, -1, -1);
        check.refused("END without TEST", 3, 18, 0, type, 0, zero, plus, less, -1, -1, -1, -1, self);
        check.refused("TEST of I", 3, 18, 0, type, 0, zero, plus, plus, self);
        check.refused("END of Z", 3, 18, 0, type, 0, zero, plus, less, less);
        check.refused("INIT of J, STEP of I", 3, 18, 0, type, 0, check.constant(6, 0), plus, less, self);
        check.refused("INIT of other places", 3, 18, 0, type, 0, plus, plus, less, self);
        check.refused("STEP beyond the places", 3, 18, 0, type, 0, -1, check.make(3, 0, 6, 0), less, self);
        check.hasType("no VARIABLE: TEST has A's places", check.make(18, 0, type, 0, -1, -1, check.make(4, 1, check.type(0, 6), 0, check.make(6, 0, 0, 3, less)), -1), 5, 5, 6);
        check.refused("no VARIABLE for V", 3, 18, 0, type, 0, -1, check.make(34, 0, check.type(0), 0), less, -1);
        int four = check.make(18, 0, type, 0, zero, -1, -1, -1, zero, -1, -1, -1, zero, -1, -1, -1, zero, plus, less, self);
        check.hasType("LOOP of four clauses", four, 5, 5, 6);
    }

    private static void invokingForms() {
        HandleHouse house = check.fresh("promise 6");
        int type = check.type(5, 6, 7);
        check.hasType("INVOKE", check.make(27, 0, type, 0), 5, 18, 6, 7);
        check.hasType("INVOKE AS", check.make(28, 0, type, 0), 5, 18, 6, 7);
        check.refused("INVOKE of no type", 1, 27, 0, -1, 0);
        check.refused("INVOKE AS of no type", 1, 28, 0, 99, 0);
        int ten = check.type(5, 5, 5, 5, 5, 5, 5, 5, 5, 5, 5);
        check.refused("INVOKE to eleven", 4, 27, 0, ten, 0);
        check.refused("no TARGET", 1, 29, 0, 0, 0);
        house.target(check.make(3, 11, 6, 0));
        check.hasType("TARGET", check.make(29, 0, 0, 0), 1, 6, 6);
        check.refused("TARGET 1", 1, 29, 1, 0, 0);
    }

    private static void simpler() {
        HandleHouse house = check.fresh("promise 6");
        int less = check.make(3, 11, 5, 0);
        int own = house.handle(less, 0);
        check.due("DROP of no places", check.make(4, 1, check.type(7), 0, less), less);
        check.due("MOVE in place", check.make(5, 0, own, 0, less, 0, 1), less);
        check.due("AS its own type", check.make(12, 0, own, 0, less), less);
        check.due("FORCED to its own type", check.make(13, 0, own, 0, less), less);
        check.due("RESULT by a SELF", check.make(9, 0, 0, 0, less, check.make(2, 1, 0, 0)), less);
        check.due("COLLECT by a SELF", check.make(7, 1, 0, 0, less, check.make(2, 5, 0, 0)), less);
        check.refused("a simpler one is still refused", 2, 7, 2, 0, 0, less, check.make(2, 5, 0, 0));
        int swapped = check.make(5, 0, own, 0, less, 1, 0);
        check.due("MOVE back", check.make(5, 0, own, 0, swapped, 1, 0), less);
        int oii = check.type(1, 7, 5, 5);
        int direct = check.make(5, 0, oii, 0, less, 2, 1);
        int handles = house.told(7);
        check.due("MOVE of a MOVE", check.make(5, 0, oii, 0, swapped, 1, 2), direct);
        check.due("nothing new is made", house.told(7), handles);
        int iio = check.type(1, 5, 5, 7);
        int joined = check.make(5, 0, iio, 0, direct, 2, 1, 0);
        check.due("its h", house.handle(joined, 5), less);
        check.due("its number 0", house.handle(joined, 6), 0);
        check.due("its number 1", house.handle(joined, 7), 1);
        check.due("how many parts", house.handle(joined, 4), 3);
        check.due("and back to the own type", check.make(5, 0, own, 0, joined, 0, 1, 0), -1);
        check.due("refused by kinds", house.refused(), 3);
        int twice = check.make(5, 0, check.type(1, 5), 0, less, 0, 0);
        check.hasType("MOVE of one to two", twice, 1, 5);
    }

    private static void sameOnes() {
        HandleHouse house = check.fresh("promise 6");
        int plus = check.make(3, 0, 5, 0);
        check.due("the same again, what it hasn't differs", check.make(3, 0, 5, 77), plus);
        int bound = check.make(6, 1, 4, 3, plus);
        check.due("BIND again", check.make(6, 1, -9, 3, plus), bound);
        check.due("another c", check.make(6, 1, 4, 4, plus), bound + 1);
        check.due("another a", check.make(6, 0, 4, 3, plus), bound + 2);
        check.due("HANDLE of one", check.make(1, 3, 4, 5, plus), bound + 3);
        check.due("HANDLE of another", check.make(1, 3, 4, 5, bound), bound + 4);
        check.due("HANDLE of the first again", check.make(1, 0, 0, 0, plus), bound + 3);
        check.due("how many handles", house.told(7), bound + 5);
    }

    /** Junk for what a form hasn't of a, b and c is 0 of its handle. */
    private static void notLookedAt() {
        HandleHouse house = check.fresh("promise 6, what a form hasn't");
        house.point();
        int plus = check.make(3, 0, 5, 0);
        int less = check.make(3, 11, 5, 0);
        int code = check.make(33, 0, 0, 0);
        int size = check.make(21, 15, 0, 0);
        int last = check.make(4, 1, check.type(0, 5), 0, code);
        int self = check.make(2, 5, 0, 0);
        house.target(plus);
        int own = house.handle(plus, 0);
        int type = check.type(5, 5, 5, 5);
        int as = check.type(6, 2, 2);
        int one = check.type(5, 5);
        // form, a, b, c: -1 where the form has none; then its parts
        int[][] rows = {{0, 5, -1, 9}, {1, -1, -1, -1, plus}, {2, 7, -1, -1}, {3, 2, 6, -1}, {4, 1, type, -1, plus},
            {5, -1, type, -1, plus, 2, 0}, {6, 1, -1, 4, plus}, {7, 1, -1, -1, plus, code}, {8, 1, -1, -1, plus, house.make(0, 5, 0, 3)},
            {9, -1, -1, -1, code, house.make(20, 17, 0, 0)}, {10, 15, 2, -1, plus}, {11, -1, 3, -1, size}, {12, -1, as, -1, plus},
            {13, -1, as, -1, plus}, {14, -1, -1, -1, less, plus, plus}, {15, 19, -1, -1, plus, code}, {16, -1, -1, -1, plus, last},
            {17, -1, -1, -1, plus, plus}, {18, -1, one, -1, -1, plus, less, self}, {19, 5, 19, -1}, {20, 16, -1, -1}, {21, 16, -1, -1},
            {22, 16, -1, -1}, {23, 16, -1, -1}, {24, 16, -1, -1}, {25, 16, -1, -1}, {26, 16, -1, -1}, {27, -1, own, -1},
            {28, -1, own, -1}, {29, 0, -1, -1}, {30, 0, -1, -1, plus, plus}, {31, 13, -1, -1}, {32, -1, -1, -1}, {33, -1, -1, -1},
            {34, -1, type, -1}};
        for (int[] row : rows) {
            int[] parts = java.util.Arrays.copyOfRange(row, 4, row.length);
            int a = row[1] == -1 ? 77 : row[1];
            int b = row[2] == -1 ? -78 : row[2];
            int h = check.make(row[0], a, b, row[3] == -1 ? 79 : row[3], parts);
            String what = "FORM " + row[0];
            check.due(what, house.handle(h, 1), row[0]);
            check.due(what + ": a", house.handle(h, 2), row[1] == -1 ? 0 : row[1]);
            check.due(what + ": b", house.handle(h, 3), row[2] == -1 ? 0 : row[2]);
            check.due(what + ": c", house.constant(h), row[3] == -1 ? 0 : row[3]);
            int again = check.make(row[0], Math.max(row[1], 0), Math.max(row[2], 0), Math.max(row[3], 0), parts);
            check.due(what + ": one handle", again, h);
        }
    }

    private static void order() {
        HandleHouse house = check.fresh("promise 12");
        int less = check.make(3, 11, 5, 0);
        check.refused("1 ahead of 2", 1, 4, 99, 99, 0, less);
        int type = check.type(1, 6);
        check.refused("2 ahead of 3", 2, 5, 0, type, 0, less, 0, 7);
        check.refused("3 alone", 3, 5, 0, type, 0, less, 0, 0);
        check.make(3, 11, 5, 0);
        check.due("0 behind one that was made", house.refused(), 0);
        house.make(99, 0, 0, 0);
        house.type(99);
        house.newClass(99, 0);
        house.target(99);
        house.run(99, 1);
        check.due("other calls leave it", house.refused(), 1);
        house.newClass(7, 0);
        house.field(20, 100, 5, false, 0);
        check.due("of field()", house.refused(), 2);
        house.method(20, 0, less, false, 0);
        check.due("of method()", house.refused(), 3);
        house.find(20, 20, 0, 0, 4);
        check.due("of find()", house.refused(), 6);
        house.field(20, 1, 5, false, 0);
        check.due("0 behind field()", house.refused(), 0);
    }

    private static void room() {
        HandleHouse house = check.fresh("promise 6");
        for (int i = 0; i < 100; i++) {
            check.due("handle " + i, check.constant(5, i), i);
        }
        check.fillHandles(499);
        check.due("the 500th", check.constant(6, 500), 499);
        check.refused("the 501st", 5, 0, 6, 0, 501);
        check.refused("also of a new type: no type is made", 5, 2, 5, 0, 0);
        check.due("an old one is still there", check.constant(5, 77), 77);
        check.due("refused()", house.refused(), 0);
        check.due("a simpler one needs no room", check.make(12, 0, 0, 0, 3), 3);
    }
}
