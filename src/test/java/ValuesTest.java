/** Promises 21 to 23: values are kept and told about. */
public final class ValuesTest {
    private static final Check check = new Check("ValuesTest");

    public static void main(String[] args) {
        keeping();
        room();
        values();
        elements();
        check.end();
    }

    private static void keeping() {
        HandleHouse house = check.fresh("promise 21");
        check.due("nothing ran", house.keep(), -1);
        check.run(check.make(2, 5, 0, 0), 1, 5);
        check.due("a number", house.keep(), -1);
        check.run(check.make(2, 7, 0, 0), 1, -1);
        check.due("NULL", house.keep(), -1);
        check.run(check.make(23, 15, 0, 0), 1, -1, 0, 0);
        check.due("what was thrown", house.keep(), 0);
        check.due("again: a new one", house.keep(), 1);
        check.run(check.make(20, 15, 0, 0), 1, 2);
        check.due("a row", house.keep(), 2);
        check.run(check.make(20, 15, 0, 0), 1, 200);
        check.due("FULL", house.keep(), -1);
        check.run(check.make(4, 0, check.type(0, 5), 0, check.make(20, 15, 0, 0)), 1, 1, 1);
        check.due("out of fuel", house.keep(), -1);
        check.run(check.make(34, 0, check.type(0), 0), 1);
        check.due("V", house.keep(), -1);
        check.due("how many", house.told(5), 3);
    }

    private static void room() {
        HandleHouse house = check.fresh("promise 21");
        check.run(check.make(20, 15, 0, 0), 1, 2);
        for (int i = 0; i < 100; i++) {
            check.due("value " + i, house.keep(), i);
        }
        check.due("the 101st", house.keep(), -1);
        check.due("the last one", house.value(99, 0), 15);
        check.due("none behind it", house.value(100, 0), 0);
        check.run(check.make(23, 15, 0, 0), 1, 0, 1, 7);
        check.due("all are the same row", house.element(99, 1, 0), 7);
    }

    private static void values() {
        HandleHouse house = check.fresh("promise 22");
        int row = check.kept(check.make(20, 16, 0, 0), 9);
        check.due("kind", house.value(row, 0), 16);
        check.due("size", house.value(row, 1), 9);
        check.due("what 2", house.value(row, 2), 0);
        check.due("what -1", house.value(row, -1), 0);
        check.due("no such value", house.value(1, 0), 0);
        check.due("value -1", house.value(-1, 0), 0);
        check.due("edge", house.value(Integer.MAX_VALUE, 1), 0);
        int self = check.make(2, 6, 0, 0);
        int box = check.kept(check.make(12, 0, check.type(14, 6), 0, self), Long.MAX_VALUE);
        check.due("a box", house.value(box, 0), 14);
        check.due("its number", house.value(box, 1), Long.MAX_VALUE);
        int object = check.kept(check.make(1, 0, 0, 0, self));
        check.due("of H", house.value(object, 0), 18);
        check.due("its handle", house.value(object, 1), self);
        int error = check.kept(check.make(3, 3, 5, 0), 1, 0);
        check.due("of E", house.value(error, 0), 19);
        check.due("its code", house.value(error, 1), 3);
        house.newClass(19, 0);
        house.method(20, 0, check.make(34, 0, check.type(0, 20), 0), false, 3);
        int instance = check.kept(house.find(20, 20, 0, check.type(0), 3));
        check.due("an instance", house.value(instance, 0), 20);
        check.due("its number", house.value(instance, 1), 0);
    }

    private static void elements() {
        HandleHouse house = check.fresh("promise 23");
        int row = check.kept(check.make(20, 15, 0, 0), 2);
        int wide = check.kept(check.make(20, 16, 0, 0), 2);
        int objects = check.kept(check.make(20, 17, 0, 0), 3);
        check.run(check.make(23, 15, 0, 0), 9, row, 1, -4);
        check.run(check.make(23, 16, 0, 0), 9, wide, 1, 1L << 60);
        check.run(check.make(23, 17, 0, 0), 9, objects, 1, row);
        int box = check.kept(check.make(12, 0, check.type(7, 4), 0, check.make(2, 4, 0, 0)), 65);
        check.run(check.make(23, 17, 0, 0), 9, objects, 2, box);
        check.due("of I", house.element(row, 1, 0), -4);
        check.due("its kind", house.element(row, 1, 1), 5);
        check.due("of J", house.element(wide, 1, 0), 1L << 60);
        check.due("its kind", house.element(wide, 0, 1), 6);
        check.due("NULL", house.element(objects, 0, 0), 0);
        check.due("its kind", house.element(objects, 0, 1), 0);
        check.due("a row's size", house.element(objects, 1, 0), 2);
        check.due("its kind", house.element(objects, 1, 1), 15);
        check.due("a box's number", house.element(objects, 2, 0), 65);
        check.due("its kind", house.element(objects, 2, 1), 12);
        check.due("what 2", house.element(row, 1, 2), 0);
        check.due("what -1", house.element(row, 1, -1), 0);
        check.due("element -1", house.element(row, -1, 1), 0);
        check.due("element 2", house.element(row, 2, 1), 0);
        check.due("no such value", house.element(99, 0, 1), 0);
        check.due("value -1", house.element(-1, 0, 1), 0);
        check.due("no row", house.element(box, 0, 1), 0);
    }
}
