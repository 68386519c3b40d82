/** Promise 1: a new object, and the face of the class. */
public final class NewObjectTest {
    public static void main(String[] args) {
        Check check = new Check("NewObjectTest");
        HandleHouse house = check.fresh("promise 1");
        check.due("NONE", HandleHouse.NONE, -1);
        check.due("public methods", Check.publicMethods(), 28);
        check.due("members that are not private", Check.visibleMembers(), 30);
        check.due("told(0)", house.told(0), -1);
        for (int what = 1; what <= 8; what++) {
            check.due("told(" + what + ")", house.told(what), 0);
        }
        check.due("refused()", house.refused(), 0);
        check.due("result()", house.result(), 0);
        check.due("keep()", house.keep(), -1);
        check.due("value(0, 0)", house.value(0, 0), 0);
        check.due("element(0, 0, 1)", house.element(0, 0, 1), 0);
        check.due("typeAbout(0, -1)", house.typeAbout(0, -1), -1);
        check.due("handle(0, 0)", house.handle(0, 0), -1);
        check.due("constant(0)", house.constant(0), 0);
        check.due("off(0)", house.off(0), false);
        check.due("aim(0, 0)", house.aim(0, 0), false);
        check.due("target(0)", house.target(0), -1);
        check.due("run(0, 1)", house.run(0, 1), -1);
        check.due("find(20, 20, 0, 0, 0)", house.find(20, 20, 0, 0, 0), -1);
        check.due("its refusal", house.refused(), 1);
        check.due("fault(0)", house.fault(0), 0);
        check.due("fault(1)", house.fault(1), -1);
        check.due("fault(2)", house.fault(2), 0);
        check.due("named(0)", house.named(0), -1);
        check.due("may(20, 20, false)", house.may(20, 20, false), false);
        check.due("the row is empty", house.type(0), 0);
        check.due("so the type has no places", house.typeAbout(0, -2), 0);
        check.due("read() of no text", house.read(), 0);
        check.due("end(0) of no text", house.end(0), 0);
        check.end();
    }
}
