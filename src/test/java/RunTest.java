/** Promises 17 to 20: values wait, handles run, and what a run is told of. */
public final class RunTest {
    private static final Check check = new Check("RunTest");

    public static void main(String[] args) {
        waiting();
        refusals();
        told();
        fuel();
        depth();
        full();
        tooManyThings();
        results();
        check.end();
    }

    private static void waiting() {
        HandleHouse house = check.fresh("promise 17");
        for (int i = 0; i < 10; i++) {
            check.due("value " + i, house.pass(Long.MIN_VALUE), true);
        }
        check.due("the 11th value", house.pass(0), false);
        int self = check.make(2, 6, 0, 0);
        check.due("too many wait", house.run(self, 1), -1);
        check.due("none wait then", check.run(self, 1, 9), 0);
        check.due("in their order", house.result(), 9);
        int minus = check.make(3, 1, 5, 0);
        check.due("values wait over other calls", house.pass(10), true);
        house.type(5);
        house.told(0);
        house.pass(4);
        check.due("run", house.run(minus, 9), 0);
        check.due("result", house.result(), 6);
        check.due("they wait no more", house.run(minus, 9), -1);
        int ten = check.make(34, 0, check.type(0, 5, 5, 5, 5, 5, 5, 5, 5, 5, 5), 0);
        check.due("ten values", check.run(ten, 1, 0, 1, 2, 3, 4, 5, 6, 7, 8, 9), 0);
    }

    private static void refusals() {
        HandleHouse house = check.fresh("promise 18");
        int self = check.make(2, 2, 0, 0);
        check.due("no such handle", check.run(1, 1, 5), -1);
        check.due("handle -1", check.run(-1, 1, 5), -1);
        check.due("values wait no more", house.run(self, 1), -1);
        check.due("fuel 0", check.run(self, 0, 5), -1);
        check.due("fuel -1", check.run(self, -1, 5), -1);
        check.due("fuel 10,001", check.run(self, 10001, 5), -1);
        check.due("fuel at the edge", check.run(self, Integer.MIN_VALUE, 5), -1);
        check.due("no value", check.run(self, 1), -1);
        check.due("two values", check.run(self, 1, 5, 5), -1);
        check.due("beyond B", check.run(self, 1, 128), -1);
        check.due("below B", check.run(self, 1, -129), -1);
        check.due("nothing ran", house.told(0), -1);
        check.due("fuel 1", check.run(self, 1, 127), 0);
        check.due("fuel 10,000", check.run(self, 10000, -128), 0);
        int row = check.make(2, 15, 0, 0);
        check.due("NULL", check.run(row, 1, -1), 0);
        check.due("no VALUE", check.run(row, 1, 0), -1);
        check.due("VALUE -2", check.run(row, 1, -2), -1);
        check.due("a VALUE", check.kept(check.make(20, 16, 0, 0), 4), 0);
        check.due("of another kind", check.run(row, 1, 0), -1);
        check.due("of its kind", check.run(check.make(2, 16, 0, 0), 1, 0), 0);
        check.due("of O", check.run(check.make(2, 7, 0, 0), 1, 0), 0);
        check.due("beyond int", check.run(check.make(2, 7, 0, 0), 1, 1L << 32), -1);
        check.due("a refused run changes nothing told", house.told(3), 16);
        check.due("nor the result", house.result(), 4);
        check.due("nor refused()", house.refused(), 0);
    }

    private static void told() {
        HandleHouse house = check.fresh("promise 19");
        int divide = check.make(3, 3, 5, 0);
        check.run(divide, 5, 9, 2);
        check.due("came", house.told(0), 0);
        check.due("steps", house.told(1), 1);
        check.due("kind", house.told(2), 5);
        check.due("object", house.told(3), 0);
        check.run(divide, 5, 9, 0);
        check.due("threw", house.told(0), 1);
        check.due("steps", house.told(1), 1);
        check.due("kind", house.told(2), 19);
        check.due("object", house.told(3), 19);
        check.run(check.make(4, 0, check.type(0, 5), 0, divide), 1, 1, 9, 0);
        check.due("out of fuel", house.told(0), 2);
        check.due("its fuel", house.told(1), 1);
        check.due("kind", house.told(2), 0);
        check.due("object", house.told(3), 0);
        check.run(check.make(34, 0, check.type(7), 0), 1);
        check.due("kind of O", house.told(2), 7);
        check.due("NULL", house.told(3), 0);
        check.due("things", house.told(4), 0);
        check.run(check.make(20, 17, 0, 0), 1, 3);
        check.due("kind of a row", house.told(2), 17);
        check.due("a row", house.told(3), 17);
        check.due("things", house.told(4), 1);
        check.due("values", house.told(5), 0);
        house.keep();
        house.keep();
        check.due("values", house.told(5), 2);
        check.due("types", house.told(6), 5);
        check.due("handles", house.told(7), 4);
        check.due("members", house.told(8), 0);
        house.newClass(7, 0);
        house.field(20, 0, 5, true, 0);
        house.method(20, 0, divide, true, 0);
        check.due("members", house.told(8), 2);
        check.due("what 9", house.told(9), -1);
        check.due("what -1", house.told(-1), -1);
        check.due("what at the edge", house.told(Integer.MAX_VALUE), -1);
    }

    private static void fuel() {
        HandleHouse house = check.fresh("promise 18");
        int h = check.make(2, 5, 0, 0);
        for (int i = 0; i < 4; i++) {
            h = check.make(4, 0, check.type(0, 6), 0, h);
        }
        check.due("fuel 4 for 5 steps", check.run(h, 4, 0, 0, 0, 0, 7), 2);
        check.due("its fuel", house.told(1), 4);
        check.due("no result", house.result(), 0);
        check.due("nothing to keep", house.keep(), -1);
        check.due("fuel 5", check.run(h, 5, 0, 0, 0, 0, 7), 0);
        check.due("result", house.result(), 7);
        check.due("fuel 6", check.run(h, 6, 0, 0, 0, 0, 7), 0);
        check.due("steps", house.told(1), 5);
        int row = check.kept(check.make(20, 15, 0, 0), 1);
        int set = check.make(9, 0, 0, 0, check.make(23, 15, 0, 0), check.constant(5, 1));
        check.due("out of fuel behind a change", check.run(set, 2, row, 0, 5), 2);
        check.due("what was done stays", house.element(row, 0, 0), 5);
        int catching = check.make(15, 19, 0, 0, h, check.make(33, 0, 0, 0));
        check.due("it isn't caught", check.run(catching, 3, 0, 0, 0, 0, 7), 2);
        int last = check.make(4, 1, check.type(0, 5), 0, check.make(33, 0, 0, 0));
        check.due("nothing more is done", check.run(check.make(16, 0, 0, 0, h, last), 3, 0, 0, 0, 0, 7), 2);
    }

    /** A chain of POINTs, each of which calls the next. */
    private static void depth() {
        HandleHouse house = check.fresh("promise 18");
        int self = check.make(2, 5, 0, 0);
        int target = house.target(self);
        int down = self;
        for (int i = 0; i < 99; i++) {
            int point = i % 20;
            if (i < 20) {
                house.point();
            }
            down = check.make(30, point, 0, 0, down, self);
        }
        check.comes("100 calls", down, 6, 6);
        check.due("100 steps", house.told(1), 100);
        int deeper = check.make(30, 19, 0, 0, down, down);
        check.due("101 calls", check.run(deeper, 10000, 6), 3);
        check.due("its steps", house.told(1), 100);
        check.due("kind", house.told(2), 0);
        check.due("no object", house.told(3), 0);
        check.due("no result", house.result(), 0);
        check.due("TOO DEEP ahead of OUT OF FUEL", check.run(deeper, 100, 6), 3);
        check.due("OUT OF FUEL", check.run(deeper, 99, 6), 2);
        house.aim(target, check.make(29, target, 0, 0));
        check.due("a target aimed at itself", check.run(check.make(29, target, 0, 0), 10000, 6), 3);
        check.due("100 steps", house.told(1), 100);
    }

    private static void full() {
        HandleHouse house = check.fresh("promise 18");
        int make = check.make(20, 15, 0, 0);
        int gathered = check.make(11, 0, 1, 0, check.make(2, 15, 0, 0));
        check.due("a row of 101", check.run(make, 9, 101), 4);
        check.due("steps", house.told(1), 1);
        check.due("kind", house.told(2), 0);
        check.due("nothing to keep", house.keep(), -1);
        check.due("nothing was made", house.told(4), 0);
        check.due("a row of 100", check.run(make, 9, 100), 0);
        int catching = check.make(15, 19, 0, 0, make, check.make(34, 0, check.type(15, 19), 0));
        check.due("FULL isn't caught", check.run(catching, 9, 200), 4);
        check.due("a row gathered", check.run(gathered, 9, 200), 0);
        check.due("how many", house.told(4), 2);
    }

    private static void tooManyThings() {
        HandleHouse house = check.fresh("promise 18");
        int make = check.make(20, 15, 0, 0);
        int ofV = check.make(12, 0, check.type(0, 5), 0, make);
        int inc = check.make(6, 1, 0, 1, check.make(3, 0, 5, 0));
        int less = check.make(3, 11, 5, 0);
        int step = check.make(6, 0, 0, 1, ofV);
        int fill = check.make(18, 0, check.type(5, 5), 0, -1, step, -1, -1,
            -1, inc, less, check.make(2, 5, 0, 0));
        check.comes("999 rows", fill, 999, 999);
        check.due("how many", house.told(4), 999);
        check.due("the 1000th", check.run(make, 9, 0), 0);
        check.due("the 1001st", check.run(make, 9, 0), 4);
        check.due("a size below 0 is ahead of it", check.run(make, 9, -1), 1);
        check.due("its code", house.result(), 4);
        check.due("how many", house.told(4), 1000);
        check.due("a gathered one", check.run(check.make(11, 0, 0, 0, check.make(2, 15, 0, 0)), 9), 4);
    }

    private static void results() {
        HandleHouse house = check.fresh("promise 20");
        house.newClass(7, 0);
        int self = check.make(2, 6, 0, 0);
        check.run(self, 1, Long.MIN_VALUE);
        check.due("a number", house.result(), Long.MIN_VALUE);
        check.run(check.make(12, 0, check.type(7, 6), 0, self), 9, 88);
        check.due("of a box", house.result(), 88);
        check.run(check.make(20, 17, 0, 0), 9, 12);
        check.due("of a row its size", house.result(), 12);
        check.run(check.make(1, 0, 0, 0, self), 9);
        check.due("of H its handle", house.result(), self);
        check.run(check.make(22, 15, 0, 0), 9, -1, 0);
        check.due("of E its code", house.result(), 1);
        int maker = check.make(34, 0, check.type(0, 20), 0);
        house.method(20, 0, maker, false, 3);
        check.run(house.find(20, 20, 0, check.type(0), 3), 9);
        check.due("an instance", house.told(3), 20);
        check.due("of an instance 0", house.result(), 0);
        check.run(maker, 9, -1);
        check.due("of V 0", house.result(), 0);
        check.run(check.make(2, 7, 0, 0), 9, -1);
        check.due("of NULL 0", house.result(), 0);
    }
}
