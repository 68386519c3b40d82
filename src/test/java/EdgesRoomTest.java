/** Texts for which there is no room, or that are faulty: what is made until then, where the FAULT is, and that nothing is made behind it. */
public final class EdgesRoomTest {
    private static final Check check = new Check("EdgesRoomTest");
    /** What is told of each text: its head, its body, then places of it, each with what is made there. */
    private static final String[][] TEXTS = {
        {"(def f v((a i)(b z))", "77", "(def:thh", "77:hth", "(def:h"},
        {"(def f v((a i)(b z))", "a", "(def:thh", "a:Hth", "(def:h"},
        {"(def f v((a i)(b j))", "(same a b)", "(def:thh", "a b:Hth", "b):Hth", "(same:thhHtHHh", "(def:h"},
        {"(def f v((a i)(b j))", "(is n a)", "(def:thh", "a):Hth", "(is:thHtHh", "(def:h"},
        {"(def f j((a i)(b j))", "(do a b)", "(def:thh", "a b:Hth", "b):Hh", "(do:thh"},
        {"(def f j((a o)(b j))", "(if a b b)", "(def:thh", "a b:Hth", "b b:Hh", "(if:thh"},
        {"(def f v((a z)(b i)(c j))", "(if a b c)", "(def:thh", "a b:hth", "b c:Hth", "c):Hth", "(if:hh", "(def:h"},
        {"(def f v((a z)(b i)(c b))", "(if a b c)", "(def:thh", "a b:hth", "b c:Hth", "c):Hth", "(if:hh", "(def:h"},
        {"(def f v((a j)(b i)(c o))", "(loop((x a)(y b))(y y)c c)", "(def:thh", "a)(y:Hth", "b))(y:Hth", "y y:th", "c c:Hth", "(loop:ththth", "(def:h"},
        {"(def f j((a j)(b i))", "(try a(x)b)", "(def:thh", "a(x:Hh", "b):Hth", "(try:thh"},
        {"(def f v((a b)(b z))", "(row xj a)", "(def:thh", "a):Hth", "(row:thHtHh", "(def:h"},
        {"(def f v((a xi)(b c))", "(get a b)", "(def:thh", "a b:Hth", "b):Hth", "(get:thHHHh", "(def:h"},
        {"(def f i((a xj)(b c))", "(set a b b)", "(def:thh", "a b:Hth", "b b:Hth", "(set:hthHtHHHh", "(def:h"},
        {"(def f v((a o)(b z))", "(code a)", "(def:thh", "a):Hth", "(code:thHtHh", "(def:h"},
        {"(def f v((a i)(b z))", "(as j a)", "(def:thh", "a):Hth", "(as:th", "(def:h"},
        {"(def f v((a i)(b z))", "(force b a)", "(def:thh", "a):Hth", "(force:th", "(def:h"},
        {"(def f v((a i))", "(null e)", "(def:thh", "(null:hth", "(def:h"},
        {"(def f v((a e)(b z))", "(throw j a)", "(def:thh", "a):Hth", "(throw:HtHh", "(def:h"},
        {"(def f v((a xi)(b z))", "(size a)", "(def:thh", "a):Hth", "(size:HtHh", "(def:h"},
        {"(def f v((a j)(b o))", "(f b a)", "(def:thh", "b a:Hth", "a):Hth", "(f:hhHHh"},
        {"(def f v((a i)(b z))", "(let(x a)b)", "(def:thh", "a)b:Hth", "b):hth", "(let:H", "(def:h"},
    };

    public static void main(String[] args) {
        handlesMade();
        typesMade();
        nothingBehind();
        nothingBehindDepth();
        nothingBehindParts();
        check.end();
    }

    /** At each place: t a TYPE is made, h a HANDLE, H a HANDLE with its TYPE. */
    private static String made(String[] text) {
        StringBuilder made = new StringBuilder();
        for (int i = 2; i < text.length; i++) {
            made.append(text[i].substring(text[i].indexOf(':') + 1));
        }
        return made.toString();
    }

    /** Where what is made as the one with this number is at fault if it can't be. */
    private static int placeOf(String[] text, int number) {
        int left = number;
        for (int i = 2; i < text.length; i++) {
            int colon = text[i].indexOf(':');
            left -= text[i].length() - colon - 1;
            if (left < 0) {
                String words = text[i].substring(0, colon);
                return words.equals("(def") ? 0 : text[0].length() + text[1].indexOf(words);
            }
        }
        return -1;
    }

    private static int count(String made, int until, String sorts) {
        int count = 0;
        for (int i = 0; i < until; i++) {
            count += sorts.indexOf(made.charAt(i)) >= 0 ? 1 : 0;
        }
        return count;
    }

    private static void handlesMade() {
        check.sentence("When its ) was read (or its one WORD) its parts, whose HANDLES were made as they were read, are passed as told, from the left,"
            + " then what it is is made.");
        for (String[] text : TEXTS) {
            String made = made(text);
            for (int i = 0; i < made.length(); i++) {
                if (made.charAt(i) != 't') {
                    noHandleFor(text, "", "", i);
                    if (placeOf(text, i) > 0) {
                        noHandleFor(text, "(+ ", " 8888l)", i);
                        noHandleFor(text, "(same ", " a)", i);
                        noHandleFor(text, "(do ", " 5l)", i);
                    }
                }
            }
            HandleHouse house = filled(500 - count(made, made.length(), "hH"));
            int types = house.told(6);
            check.sound(text[0] + text[1] + ")");
            check.due(text[1] + ": TYPES", house.told(6) - types, count(made, made.length(), "tH"));
            check.due(text[1] + ": HANDLES", house.told(7), 500);
        }
    }

    /** A house with so many HANDLES, that of 5l among them, and with the TYPES that fillTypes() makes first. */
    private static HandleHouse filled(int handles) {
        check.again();
        check.constant(6, 5);
        check.fillTypes(230);
        check.fillHandles(handles);
        return check.house;
    }

    /** There is room for the HANDLES that are made ahead of one, not for that one. */
    private static void noHandleFor(String[] text, String ahead, String behind, int event) {
        String made = made(text);
        HandleHouse house = filled(500 - count(made, event, "hH"));
        int types = house.told(6);
        faultOf(text, ahead, behind, event);
        check.due(ahead + text[1] + ", HANDLE " + event + ": TYPES", house.told(6) - types, count(made, event, "tH"));
        check.due(ahead + text[1] + ", HANDLE " + event + ": HANDLES", house.told(7), 500);
    }

    private static void faultOf(String[] text, String ahead, String behind, int event) {
        int place = placeOf(text, event);
        check.faulty(text[0] + ahead + text[1] + behind + ")", 8, place == 0 ? 0 : place + ahead.length());
    }

    private static void typesMade() {
        check.sentence("8 what can't be made (a TYPE, a HANDLE, a TARGET; by make()'s 4, 5).");
        for (String[] text : TEXTS) {
            String made = made(text);
            for (int i = 0; i < made.length(); i++) {
                if (made.charAt(i) != 'h') {
                    noTypeFor(text, "", "", i);
                    if (placeOf(text, i) > 0) {
                        noTypeFor(text, "(do ", " 8888)", i);
                        noTypeFor(text, "(same ", " a)", i);
                    }
                }
            }
            HandleHouse house = check.again();
            check.fillTypes(300 - count(made, made.length(), "tH"));
            int handles = house.told(7);
            check.sound(text[0] + text[1] + ")");
            check.due(text[1] + ": TYPES", house.told(6), 300);
            check.due(text[1] + ": HANDLES", house.told(7) - handles, count(made, made.length(), "hH"));
        }
    }

    /** There is room for the TYPES that are made ahead of one, not for that one. */
    private static void noTypeFor(String[] text, String ahead, String behind, int event) {
        String made = made(text);
        HandleHouse house = check.again();
        check.fillTypes(300 - count(made, event, "tH"));
        int handles = house.told(7);
        faultOf(text, ahead, behind, event);
        check.due(ahead + text[1] + ", TYPE " + event + ": HANDLES", house.told(7) - handles, count(made, event, "hH"));
        check.due(ahead + text[1] + ", TYPE " + event + ": TYPES", house.told(6), 300);
    }

    private static void nothingBehind() {
        check.sentence("FAULTS, the first from the left, with a place, found as a WORD is read;");
        String[] faulty = {"@q", "(@1)", "(@)", "(@()", "(@?)", "(@99999999999 1)", "(@abcdefghi 1)", "(@q 1)", "(as @q 1)", "(as @5 1)", "(null @5)", "(null @v)",
            "@(null i)", "(+ @q 1)", "@(+ 1(null xi))", "@(+ (null xi)1)", "@(if(null e)1 2)", "@(if(= 1 1)1(null e))", "(if @q 1 2)", "(let(x @q)1)", "(let(x 1)@q)",
            "(let(@1 1)1)", "(let @x 1)", "@(let(x(set r 0 1))1)", "(let(x 1 @1)1)", "(let(x 1)1 @1)", "(try @q(x)1)", "(try 1(@1)1)", "(try 1 @1)", "(try 1(x @1)1)",
            "(try 1(x)@q)", "@(try 1(x)(null e))", "(loop((x @q))(1)1 1)", "(loop((@1 1))(1)1 1)", "(loop(@)(1)1 1)", "(loop((x 1))(@q)1 1)", "(loop((x 1))@1 1 1)",
            "(loop((x 1))(1)@q 1)", "(loop((x 1))(1)(= 1 1)@q)", "@(loop((x 1))((null e))(= 1 1)x)", "@(loop((x 1))(1)(null e)x)", "@(loop((x(set r 0 1)",
            "(f 1 @q)", "(f @q 1)", "@(f 1)", "@(f 1 2)", "@(f(null e)r)", "@(size 1)", "@(get 1 2)", "@(get r(null e))", "@(set r 1(null e))", "@(set r(null e)1)",
            "(try @q 77(x)1)", "(try 1(@1 77)1)", "(try 1 @1 77)", "(try 1(x @1 77)1)", "(try 1(x)@q 77)", "(let(x @q 77)1)", "(let(@1 77)1)", "(let(x 1)@q 77)",
            "(let @1 77)", "(loop((x @q 77))(1)1 1)", "(loop((@1 77))(1)1 1)", "(loop(@1 77)(1)1 1)", "(loop((x 1))(@q 77)1 1)", "(loop((x 1))@1 77)",
            "(loop((x 1))(1)@q 77)", "(f @q 77)", "(get @q 77)", "(set r @q 77)", "(set @q 77 88)", "(@1 77)", "(as @5 77)", "(as @q 77)", 
            "@(row i 1)", "@(row xi(null e))", "@(is i 1)", "@(throw v 1)", "@(code 1)", "(same 1 @q)", "@(force h 1)", "@(as h 1)", "(do @q 1)", "(do 1 @q)"};
        String head = "(def f v((a i)(r xi))";
        for (String one : faulty) {
            HandleHouse house = check.again();
            String alone = one.replace("@", "");
            check.read(head + alone + ")");
            int fault = house.fault(0);
            int types = house.told(6);
            int handles = house.told(7);
            check.due(one + ": a FAULT", fault != 0, true);
            check.due(one + ": its place", house.fault(1), head.length() + one.indexOf('@'));
            for (String outer : new String[] {"(do ", "(+ ", "(f ", "(same ", "(try ", "(let(y "}) {
                house = check.again();
                check.faulty(head + outer + alone + " 7777)(e)8888l)9999)", fault, head.length() + outer.length() + one.indexOf('@'));
                check.due(outer + one + ": no more TYPES", house.told(6), types);
                check.due(outer + one + ": no more HANDLES", house.told(7), handles);
            }
        }
    }

    private static void nothingBehindDepth() {
        HandleHouse house = check.sentence("5 a ( within 20 others.");
        String deep = "(def f i()" + "(+ 1 ".repeat(19);
        check.faultAt(5, deep + "@(+ 77 88)");
        // EMPTY, TARGET, CONSTANT
        check.due("nothing is made behind it", house.told(7), 3);
    }

    private static void nothingBehindParts() {
        HandleHouse house = check.sentence("of a DEFINITION's any number is read.)");
        check.faultAt(6, "(def f i()(f 1 2 3 4 5 6 @q 77))");
        // EMPTY, TARGET, six CONSTANTS
        check.due("nothing is made behind a FAULT of the seventh", house.told(7), 8);
        check.faultAt(9, "(def g i()@(g 1 2 3 4 5 6 7 78))");
        check.due("all are made", house.told(7), 11);
    }
}
