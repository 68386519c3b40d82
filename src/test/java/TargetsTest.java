/** Promises 13 to 16: targets are aimed, points are turned off. */
public final class TargetsTest {
    private static final Check check = new Check("TargetsTest");

    public static void main(String[] args) {
        targets();
        aiming();
        points();
        check.end();
    }

    private static void targets() {
        HandleHouse house = check.fresh("promise 13");
        check.due("no such handle", house.target(0), -1);
        int plus = check.make(3, 0, 5, 0);
        check.due("handle -1", house.target(-1), -1);
        check.due("handle 1", house.target(1), -1);
        for (int i = 0; i < 80; i++) {
            check.due("target " + i, house.target(plus), i);
        }
        check.due("the 81st", house.target(plus), -1);
        check.due("refused() isn't about targets", house.refused(), 0);
        check.hasType("the last one", check.make(29, 79, 0, 0), 5, 5, 5);
        check.comes("is aimed", check.make(29, 79, 0, 0), 9, 4, 5);
        check.refused("there is none behind it", 1, 29, 80, 0, 0);
    }

    private static void aiming() {
        HandleHouse house = check.fresh("promise 14");
        int plus = check.make(3, 0, 5, 0);
        int minus = check.make(3, 1, 5, 0);
        int less = check.make(3, 11, 5, 0);
        check.due("no such target", house.aim(0, plus), false);
        house.target(plus);
        house.target(less);
        int h = check.make(29, 0, 0, 0);
        check.due("of its type", house.aim(0, minus), true);
        check.comes("so it is called", h, 3, 7, 4);
        check.due("of another type", house.aim(0, less), false);
        check.due("no such handle", house.aim(0, 99), false);
        check.due("handle -1", house.aim(0, -1), false);
        check.due("target -1", house.aim(-1, plus), false);
        check.due("target 2", house.aim(2, plus), false);
        check.comes("nothing changed", h, 3, 7, 4);
        check.due("at what it is aimed at", house.aim(0, minus), true);
        check.due("at itself", house.aim(0, h), true);
    }

    private static void points() {
        HandleHouse house = check.fresh("promise 15");
        for (int i = 0; i < 20; i++) {
            check.due("point " + i, house.point(), i);
        }
        check.due("the 21st", house.point(), -1);
        house = check.fresh("promise 16");
        int one = check.constant(5, 1);
        int two = check.constant(5, 2);
        check.due("no such point", house.off(0), false);
        house.point();
        house.point();
        int first = check.make(30, 0, 0, 0, one, two);
        int second = check.make(30, 1, 0, 0, one, two);
        check.comes("it is on", first, 1);
        check.due("off", house.off(0), true);
        check.comes("it is off", first, 2);
        check.comes("the other one is on", second, 1);
        check.due("off again", house.off(0), false);
        check.due("point 2", house.off(2), false);
        check.due("point -1", house.off(-1), false);
        check.due("point at the edge", house.off(Integer.MIN_VALUE), false);
        check.comes("it stays off", first, 2);
    }
}
