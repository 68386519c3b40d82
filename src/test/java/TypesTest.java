/** Promises 2, 4 and 5: the row, and types. */
public final class TypesTest {
    private static final Check check = new Check("TypesTest");

    public static void main(String[] args) {
        row();
        types();
        wrongTypes();
        about();
        room();
        check.end();
    }

    private static void row() {
        HandleHouse house = check.fresh("promise 2");
        for (int i = 0; i < 20; i++) {
            check.due("number " + i, house.put(5), true);
        }
        check.due("the 21st number", house.put(5), false);
        check.due("20 places are too many", house.type(5), -1);
        check.due("a refused call empties the row, too", house.type(5), 0);
        check.due("put behind that", house.put(Integer.MIN_VALUE), true);
        check.due("make takes the row", house.make(2, 5, 0, 0), -1);
        check.due("and empties it", house.make(2, 5, 0, 0), 0);
        house.put(7);
        house.newClass(7, 0);
        house.field(20, 0, 5, false, 0);
        house.find(20, 20, 0, 0, 4);
        check.due("calls that don't take the row leave it", house.type(0), house.told(6) - 1);
        check.due("with its number", house.typeAbout(house.told(6) - 1, 0), 7);
    }

    private static void types() {
        HandleHouse house = check.fresh("promise 4");
        check.due("()V", check.type(0), 0);
        check.due("()I", check.type(5), 1);
        check.due("(I)I", check.type(5, 5), 2);
        check.due("(I I)I", check.type(5, 5, 5), 3);
        check.due("(I J)I", check.type(5, 5, 6), 4);
        check.due("(J I)I", check.type(5, 6, 5), 5);
        check.due("(I)I again", check.type(5, 5), 2);
        check.due("()V again", check.type(0), 0);
        check.due("ten places", check.type(5, 1, 2, 3, 4, 5, 6, 7, 8, 9, 10), 6);
        check.due("ten places again", check.type(5, 1, 2, 3, 4, 5, 6, 7, 8, 9, 10), 6);
        check.due("how many there are", house.told(6), 7);
        house.newClass(7, 0);
        check.due("of a class", check.type(20, 20), 7);
    }

    private static void wrongTypes() {
        HandleHouse house = check.fresh("promise 4");
        check.due("a result below 0", check.type(-1), -1);
        check.due("a class that isn't there", check.type(20), -1);
        check.due("a place of V", check.type(5, 5, 0), -1);
        check.due("a place that isn't there", check.type(5, 20), -1);
        check.due("a place below 0", check.type(5, -1), -1);
        check.due("eleven places", check.type(5, 5, 5, 5, 5, 5, 5, 5, 5, 5, 5, 5), -1);
        check.due("nothing was made", house.told(6), 0);
        check.due("refused() isn't about types", house.refused(), 0);
    }

    private static void about() {
        HandleHouse house = check.fresh("promise 5");
        check.type(0, 7, 5);
        check.due("result", house.typeAbout(0, -1), 0);
        check.due("how many places", house.typeAbout(0, -2), 2);
        check.due("place 0", house.typeAbout(0, 0), 7);
        check.due("place 1", house.typeAbout(0, 1), 5);
        check.due("place 2", house.typeAbout(0, 2), -1);
        check.due("what -3", house.typeAbout(0, -3), -1);
        check.due("no such type, its result", house.typeAbout(1, -1), -1);
        check.due("no such type, its places", house.typeAbout(1, -2), -1);
        check.due("type -1", house.typeAbout(-1, -2), -1);
        check.due("what at the edge", house.typeAbout(0, Integer.MAX_VALUE), -1);
        check.due("type at the edge", house.typeAbout(Integer.MIN_VALUE, 0), -1);
    }

    private static void room() {
        HandleHouse house = check.fresh("promise 4");
        check.due("the first", check.type(0, 1, 1), 0);
        check.fillTypes(299);
        check.due("the 300th", check.type(0, 1, 2), 299);
        check.due("the 301st", check.type(0, 2, 1), -1);
        check.due("there are 300", house.told(6), 300);
        check.due("an old one is still there", check.type(0, 1, 1), 0);
        check.refused("a handle of a new type", 4, 2, 5, 0, 0);
    }
}
