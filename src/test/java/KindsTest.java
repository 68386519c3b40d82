/** Promises 3 and 29: classes, and what may be passed as what. */
public final class KindsTest {
    private static final Check check = new Check("KindsTest");
    /** By rows, from Z to E: 1 where a value may be passed as one of Z, B, S, C, I, J, O, N, the boxes. */
    private static final String[] PASSED = {
        "100000101000000", "011011110100000", "001011110010000", "000111100001000", "000011110000100",
        "000001110000010", "111111111111111", "011011111111111", "100000111111111", "011011111111111",
        "001011111111111", "000111111111111", "000011111111111", "000001111111111", "000000111111111"};

    public static void main(String[] args) {
        classes();
        passing();
        forcing();
        classesMay();
        check.end();
    }

    private static void classes() {
        HandleHouse house = check.fresh("promise 3");
        check.due("below O", house.newClass(7, 1), 20);
        check.due("below E", house.newClass(19, -5), 21);
        check.due("below a class", house.newClass(20, 1), 22);
        check.due("below itself", house.newClass(23, 1), -1);
        check.due("below V", house.newClass(0, 1), -1);
        check.due("below I", house.newClass(5, 1), -1);
        check.due("below N", house.newClass(8, 1), -1);
        check.due("below H", house.newClass(18, 1), -1);
        check.due("below -1", house.newClass(-1, 1), -1);
        check.due("below 32", house.newClass(32, 1), -1);
        for (int kind = 23; kind < 32; kind++) {
            check.due("class " + kind, house.newClass(kind - 1, Integer.MAX_VALUE), kind);
        }
        check.due("the 13th class", house.newClass(7, 1), -1);
        check.due("refused() isn't about classes", house.refused(), 0);
    }

    private static void passing() {
        HandleHouse house = check.fresh("promise 29");
        for (int from = 1; from <= 15; from++) {
            for (int to = 1; to <= 15; to++) {
                boolean want = PASSED[from - 1].charAt(to - 1) == '1';
                check.due("may(" + from + ", " + to + ", false)", house.may(from, to, false), want);
            }
        }
        check.due("V to I", house.may(0, 5, false), false);
        check.due("I to V", house.may(5, 0, false), false);
        check.due("V to V", house.may(0, 0, true), false);
        check.due("no such kind", house.may(20, 7, false), false);
        check.due("to no such kind", house.may(7, 20, false), false);
        check.due("-1", house.may(-1, -1, true), false);
        check.due("edges", house.may(Integer.MAX_VALUE, Integer.MIN_VALUE, true), false);
    }

    private static void forcing() {
        HandleHouse house = check.fresh("promise 29");
        for (int from = 1; from <= 6; from++) {
            for (int to = 1; to <= 6; to++) {
                check.due("plain " + from + " to " + to, house.may(from, to, true), true);
            }
            check.due("its box " + from, house.may(from, from + 8, true), true);
            check.due("another box " + from, house.may(from, 9 + from % 6, true), false);
        }
        for (int from = 7; from <= 14; from++) {
            for (int to = 1; to <= 6; to++) {
                check.due("box " + from + " to " + to, house.may(from, to, true), true);
            }
        }
        for (int from = 15; from <= 19; from++) {
            check.due("no box " + from, house.may(from, 5, true), false);
            check.due("reference " + from, house.may(from, 13, true), true);
        }
        check.due("Z as N", house.may(1, 8, true), false);
        check.due("C as N", house.may(4, 8, true), false);
    }

    private static void classesMay() {
        HandleHouse house = check.fresh("promise 29");
        house.newClass(7, 0);
        house.newClass(19, 0);
        check.due("class to class", house.may(20, 21, false), true);
        check.due("class to O", house.may(20, 7, false), true);
        check.due("O to class", house.may(7, 20, false), true);
        check.due("class to I", house.may(20, 5, false), false);
        check.due("class to I, forced", house.may(20, 5, true), false);
        check.due("I to class", house.may(5, 20, true), false);
        check.due("E to its class", house.may(19, 21, false), true);
    }
}
