/** Sentences of Terms 8 (TEXTS) about the FAULTS. */
public final class EdgesFaultsTest {
    private static final Check check = new Check("EdgesFaultsTest");

    public static void main(String[] args) {
        firstFromTheLeft();
        foundAsRead();
        leastAtOnePlace();
        noWord();
        longNames();
        numbersOutOfBounds();
        wrongWords();
        textEnd();
        tooManyOpen();
        noKind();
        noVariable();
        noDefinition();
        thereAlready();
        seventhAndSixtyFirst();
        placesOfEnded();
        wrongCount();
        kindsAheadOfParts();
        partsFromTheLeft();
        noTypeRoom();
        noHandleRoom();
        noRoomInForms();
        noTargetRoom();
        tooManyPlaces();
        whatWasMadeStays();
        nothingMore();
        check.end();
    }

    private static String repeated(String text, int n) {
        return text.repeat(n);
    }

    private static void firstFromTheLeft() {
        check.sentence("FAULTS, the first from the left, with a place,");
        check.faultAt(1, "(def a i()@? 99999999999 abcdefghijk )");
        check.faultAt(3, "(def b i()@99999999999 ?)");
        check.faultAt(7, "(def c z()(+ 1 @(size 2))? ");
        check.faultAt(6, "(def d i()(+ @x y))");
        check.faultAt(7, "@(def e b()1)(def e b()1)");
        check.faultAt(6, "(def f i()1)(def @f i()?)");
        check.due("what is ahead of it was made", check.named("f") >= 0, true);
    }

    private static void foundAsRead() {
        check.sentence("with a place, found as a WORD is read;");
        check.faultAt(4, "(def a i()(size 1@");
        check.faultAt(7, "(def b i()@(size 1)");
        check.faultAt(7, "(def c i()(+ @(size 1)?");
        check.faultAt(1, "(def d i()(size 1@?");
        check.faultAt(4, "(def e b()1@");
        check.faultAt(7, "@(def f b()1)?");
        check.faultAt(9, "(def g i()@(g 1)?");
        check.faultAt(1, "(def h i()(h 1 @?");
    }

    private static void leastAtOnePlace() {
        HandleHouse house = check.sentence("of several at one place the least:");
        check.faultAt(1, "(def @? i()1)");
        check.faultAt(2, "@abcdefghi");
        check.faultAt(2, "(@abcdefghi");
        check.faultAt(2, "(def a @abcdefghi");
        check.faultAt(2, "(def a i()@abcdefghi");
        check.faultAt(2, "(def b i()(@abcdefghi");
        check.faultAt(3, "@99999999999");
        check.faultAt(3, "(def @99999999999");
        check.faultAt(3, "(def c i()(@99999999999");
        check.faultAt(3, "(def d i()1 @99999999999");
        String deep = "(def e i()" + repeated("(+ 1 ", 19);
        check.faultAt(4, deep + "1 @(");
        check.faultAt(4, "(def f i()" + repeated("(+ 1 ", 18) + "(as @(");
        check.again();
        check.fillHandles(500);
        check.faultAt(8, "@(def g i((a j))");
        house = check.again();
        check.fillHandles(498);
        check.faultAt(6, "(def h j()@x)");
        check.due("no room", house.told(7), 500);
        check.faultAt(4, "(def m i@");
    }

    private static void noWord() {
        check.sentence("1 a byte with which no WORD begins.");
        String wordBytes = "()+-*/%&|^<= \n0123456789abcdefghijklmnopqrstuvwxyz";
        for (int b = 0; b < 256; b++) {
            check.again();
            check.read(" " + (char) b);
            boolean begins = wordBytes.indexOf(b) >= 0;
            check.due("byte " + b, check.house.fault(0) == 1, !begins);
            check.due("its place", check.house.fault(1), b == 32 || b == 10 ? -1 : b == '(' ? 2 : 1);
        }
    }

    private static void longNames() {
        check.sentence("2 a NAME of more than 8.");
        check.sound("(def abcdefgh i((a2345678 i))a2345678)");
        check.faultAt(2, "(def @abcdefghi i()1)");
        check.faultAt(2, "(def a i((@a23456789 i))1)");
        check.faultAt(2, "(def a i()(@abcdefghi))");
        check.faultAt(2, "(def b i()@abcdefgh0)");
        check.due("named by its first eight", check.named("abcdefgh") >= 0, true);
    }

    private static void numbersOutOfBounds() {
        check.sentence("3 a NUMBER out of its bounds.");
        check.sound("(def a i()2147483647)(def b i()-2147483648)(def c j()9223372036854775807l)(def d j()-9223372036854775808l)");
        check.faultAt(3, "(def e i()@2147483648)");
        check.faultAt(3, "(def f i()@-2147483649)");
        check.faultAt(3, "(def g j()@9223372036854775808l)");
        check.faultAt(3, "(def h j()@-9223372036854775809l)");
        check.faultAt(3, "(def k j()@2147483648)");
        check.faultAt(3, "(def m j()@4294967296)");
        check.faultAt(3, "(def n j()@18446744073709551617l)");
        check.comes("2147483648l", defined("p", "j()2147483648l"), 2147483648L);
        check.comes("-2147483649l", defined("q", "j()-2147483649l"), -2147483649L);
    }

    private static int defined(String name, String rest) {
        check.sound("(def " + name + " " + rest + ")");
        return check.named(name);
    }

    private static void wrongWords() {
        check.sentence("4 a WORD that can't stand there,");
        String[] bodies = {"@)", "@+", "@=", "(@(", "(@1", "(@)", "(+ @*", "(+ 1 @)", "(let @x", "(let(@(", "(let(x @)", "(let(x 1 @1", "(let(x 1)x @x", "(do @)",
            "(loop @1", "(loop(@)", "(loop(@x", "(loop((x 1)@x", "(loop((x 1))@x", "(try 1 @1", "(try 1(@1", "(try 1(x @1", "(as @1", "(as @(", "(null o @o",
            "(row @-1", "(if @)", "(code @)"};
        for (String body : bodies) {
            check.again();
            check.faultAt(4, "(def f i()" + body);
        }
    }

    private static void textEnd() {
        check.sentence("or the TEXT's end (its length).");
        String whole = "(def f i((a i)(b xi))(let(c(get b a))(loop((k 0))((+ k 1))(< k c)(try(throw i(null e))(x)(as i(code x))))))";
        check.sound(whole);
        check.again();
        for (int length = 1; length < whole.length(); length++) {
            String text = whole.substring(0, length);
            check.again();
            check.read(text);
            boolean cut = Character.isLetterOrDigit(whole.charAt(length - 1)) && Character.isLetterOrDigit(whole.charAt(length));
            if (!cut) {
                check.due(text, check.house.fault(0), 4);
                check.due(text + ": place", check.house.fault(1), length);
            }
        }
        check.again();
        check.faultAt(4, "(def f i()1 \n @");
        check.due("blanks count", check.house.fault(1), 14);
        check.faultAt(1, "(def abcdefgh i((abcdefgh i))1111111111)@?");
        check.faultAt(4, "(def abc@");
        check.faultAt(4, "(def abcd @");
        check.faultAt(2, "(def @abcdefghijklmnopqrstuvwxyz lllllllll 11111111");
        check.faultAt(1, "@?11111111111111111111");
        check.faultAt(4, "(def g i()1@");
        check.faultAt(1, "@?llllllllllllllllllll");
        check.faultAt(4, "(def h i()111@");
        check.faultAt(1, "                    @?");
        check.sound("          ");
        check.sound("");
        check.sound(" \n ");
    }

    private static void tooManyOpen() {
        check.sentence("5 a ( within 20 others.");
        check.sound("(def a i()" + repeated("(+ 1 ", 19) + "1" + repeated(")", 19) + ")");
        check.comes("within 19 others", check.named("a"), 20);
        check.faultAt(5, "(def b i()" + repeated("(+ 1 ", 19) + "@(+ 1 1)");
        check.faultAt(5, "(def c i()" + repeated("(+ 1 ", 18) + "(let @(x 1)x)");
        check.sound("(def d i()" + repeated("(+ 1 ", 17) + "(let(x 1)x)" + repeated(")", 17) + ")");
        check.faultAt(5, "(def e i()" + repeated("(+ 1 ", 17) + "(loop(@(x 1)");
        check.faultAt(5, "(def f i()" + repeated("(+ 1 ", 18) + "(try 1@(x)");
        check.faultAt(4, "(def f2 i()" + repeated("(+ 1 ", 17) + "(loop(@");
        check.faultAt(4, "(def f3 i()" + repeated("(+ 1 ", 17) + "(loop(@)");
        check.sound("(def g i()" + repeated("(+(+ 1 1)", 18) + "1" + repeated(")", 18) + ")");
        check.comes("those that were closed don't count", check.named("g"), 37);
        check.faultAt(5, "(def h i()" + repeated("(+(+ 1 1)", 18) + "(+@(+ 1 1)");
        check.sound("(def k i()(+ 1 1))");
        check.comes("the next read() begins anew", check.named("k"), 2);
        closedOnes();
    }

    /** What is closed in each sort of brackets doesn't count, and nothing counts less than it is. */
    private static void closedOnes() {
        String[] closed = {"(loop((x 1)(y 2))(x y)(= 1 2)x)", "(let(x 1)x)", "(try 1(x)1)", "(f)", "(g 1 1)", "(as i 1)", "(size(null xi))", "(do 1 1)"};
        for (String one : closed) {
            check.again();
            String start = "(def f i()1)(def g i((a i)(b i))1)";
            String deep = "(def h i((a i)(b i))" + repeated("(+" + one, 16) + repeated("(+ 1 ", 3);
            check.sound(start + deep + "1" + repeated(")", 19) + ")");
            check.faultAt(5, deep.replace("(def h", "(def k") + "@(");
        }
    }

    private static void noKind() {
        check.sentence("6 a NAME that is no KIND where one must be,");
        check.faultAt(6, "(def a @x");
        check.faultAt(6, "(def a @k0");
        check.faultAt(6, "(def a @def");
        check.faultAt(6, "(def a i((a @x");
        check.faultAt(6, "(def a i((a @v");
        for (String word : new String[] {"as", "force", "null", "row", "is", "throw"}) {
            check.again();
            check.faultAt(6, "(def a i()(" + word + " @x");
            check.again();
            check.faultAt(6, "(def a i((i i))(" + word + " @a");
        }
    }

    private static void noVariable() {
        check.sentence("no variable,");
        check.faultAt(6, "(def a i()@x)");
        check.faultAt(6, "(def b i((x i))@y)");
        check.faultAt(6, "(def c i((x i))(+ x @c))");
        check.faultAt(6, "(def d i((x i))(let(y @y)y))");
        check.faultAt(6, "(def e i((x i))(+(let(y x)y)@y))");
        check.faultAt(6, "(def f i((x i))(+(try x(y)1)@y))");
        check.faultAt(6, "(def g i((x i))(+(loop((y 1))(1)(= 1 2)1)@y))");
        check.faultAt(6, "(def h i()@x)");
        check.faultAt(6, "(def k i()@if)");
        check.faultAt(6, "(def m i()@i)");
    }

    private static void noDefinition() {
        check.sentence("no DEFINITION (behind a ( ),");
        check.faultAt(6, "(def a i()(@x))");
        check.faultAt(6, "(def b i((x i))(@x))");
        check.faultAt(6, "(def c i()(@i 1))");
        check.faultAt(6, "(def d i()(@e))(def e i()1)");
        check.sound("(def f i()(f))");
        check.comes("of one that isn't aimed anew", defined("g", "i()(c)"), 0);
    }

    private static void thereAlready() {
        check.sentence("or in a DEFINITION or its PARAMETERS one that is there already;");
        check.sound("(def a i((b i))b)");
        check.faultAt(6, "(def @a j()1l)");
        check.faultAt(6, "(def b i((c i)(@c j))1)");
        check.due("of two PARAMETERS with one name: no DEFINITION", check.named("b"), -1);
        check.comes("a PARAMETER with a DEFINITION's name", defined("c", "i((a i)(c i))(+ a c)"), 7, 3, 4);
        check.comes("the first stays", check.named("a"), 9, 9);
    }

    private static void seventhAndSixtyFirst() {
        check.sentence("the seventh PARAMETER, the 61st DEFINITION (at its NAME).");
        String six = "(a i)(b i)(c i)(d i)(e i)(f i)";
        check.sound("(def a i(" + six + ")f)");
        check.faultAt(6, "(def b i(" + six + "(@g i))f)");
        check.faultAt(4, "(def b i(" + six + "(@)");
        check.faultAt(4, "(def b i(" + six + "@g");
        check.due("one DEFINITION", check.house.fault(2), 1);
        StringBuilder text = new StringBuilder();
        for (int i = 1; i < 60; i++) {
            text.append("(def n").append(i).append(" i()1)");
        }
        check.sound(text.toString());
        check.due("60", check.house.fault(2), 60);
        check.faultAt(6, "(def @n60 i()1)");
        check.faultAt(4, "(def @1 i()1)");
        check.faultAt(2, "(def @abcdefghi i()1)");
        check.due("60", check.house.fault(2), 60);
    }

    private static void placesOfEnded() {
        check.sentence("Then, of what has ended, at its ( (of a NAME or NUMBER at it; of TYPE, EMPTY, TARGET of a DEFINITION at its ( ):");
        check.faultAt(7, "\n @(def a b() 1)");
        check.faultAt(7, "(def b i() (+ 1 @(size 1)))");
        check.faultAt(7, "(def c i()\n@( size\n1 ) )");
        check.again();
        check.fillHandles(498);
        check.faultAt(8, "(def d j() (+ @1 2))");
        check.faultAt(8, " @(def e s() 1)");
        check.again();
        check.fillHandles(498);
        check.faultAt(8, "(def f j((a i)) (as j @a))");
    }

    private static void wrongCount() {
        check.sentence("9 a DEFINITION's, with not as many parts as PARAMETERS;");
        check.sound("(def a i()1)(def b i((x i))x)(def c i((a i)(b i)(c i)(d i)(e i)(f i))f)");
        check.faultAt(9, "(def d1 i()@(a 1))");
        check.faultAt(9, "(def d2 i()@(b))");
        check.faultAt(9, "(def d3 i()@(b 1 2))");
        check.faultAt(9, "(def d4 i()@(c 1 2 3 4 5))");
        check.faultAt(9, "(def d5 i()@(c 1 2 3 4 5 6 7))");
        check.faultAt(9, "(def d6 i()@(c 1 2 3 4 5 6 7 8 9 10 11 12 13))");
        check.faultAt(9, "(def d7 i()@(b 1l 2l))");
        check.comes("as many", defined("d8", "i()(c 1 2 3 4 5 6)"), 6);
        check.faultAt(9, "(def d9 i((x i))@(d9))");
        int handles = check.house.told(7);
        check.faultAt(9, "(def e1 j((x b))@(b x x))");
        check.due("its parts aren't passed: EMPTY, TARGET, SELF alone", check.house.told(7), handles + 3);
    }

    private static void kindsAheadOfParts() {
        HandleHouse house = check.sentence("7 kinds that are not as told, then parts,");
        check.faultAt(7, "(def a i((x b))@(get x x))");
        check.due("no AS of the second: EMPTY, TARGET, SELF alone", house.told(7), 3);
        check.faultAt(7, "(def b i((x b))@(set x x x))");
        check.due("nor here: TARGET alone", house.told(7), 4);
        house = check.again();
        check.faultAt(7, "(def c i((x b))@(row o x))");
        check.due("no AS of its part", house.told(7), 3);
        check.faultAt(7, "(def d z((x b))@(is b x))");
        check.due("no AS of its part: EMPTY, TARGET alone", house.told(7), 5);
    }

    private static void partsFromTheLeft() {
        HandleHouse house = check.sentence("then parts, from the left, that may not be passed (7) or whose AS can't be made (8);");
        check.faultAt(7, "(def a i((x b)(y e))@(+ x y))");
        check.due("the first was passed: EMPTY, TARGET, two of SELF and MOVE, AS", house.told(7), 7);
        house = check.again();
        check.faultAt(7, "(def b i((x e)(y b))@(+ x y))");
        check.due("the second wasn't", house.told(7), 6);
        house = check.again();
        check.fillHandles(494);
        check.faultAt(8, "(def c i((x b)(y e))@(+ x y))");
        check.due("the first's AS can't be made, ahead of the second's 7", house.told(7), 500);
        house = check.again();
        check.fillHandles(494);
        check.faultAt(7, "(def d i((x e)(y b))@(+ x y))");
        check.due("the first's 7 ahead of the second's AS", house.told(7), 500);
        house = check.again();
        check.faultAt(7, "(def f i((x o)(y i)(w e))@(if x y w))");
        check.due("A was passed: EMPTY, TARGET, three of SELF and MOVE, AS", house.told(7), 9);
    }

    /** The places in a text where each of its handles (or types) in turn can't be made. */
    private static final String SUM = "(def f j((a i)(b j))(+ a(* b 2)))";
    private static final int AT_A = SUM.indexOf("a(*");
    private static final int AT_B = SUM.indexOf("b 2");
    private static final int AT_2 = SUM.indexOf("2)");
    private static final int AT_TIMES = SUM.indexOf("(*");
    private static final int AT_PLUS = SUM.indexOf("(+");

    private static void noTypeRoom() {
        check.sentence("8 what can't be made (a TYPE,");
        // (I J)J; (I)I, (I J)I; (J)J; (J J)J, (J J I J)J, (J I J)J; ()I is there
        int[] places = {0, AT_A, AT_A, AT_B, AT_TIMES, AT_TIMES, AT_TIMES};
        for (int room = 0; room < places.length; room++) {
            HandleHouse house = check.again();
            check.fillTypes(300 - room);
            check.due("types ahead", house.told(6), 300 - room);
            check.faulty(SUM, 8, places[room]);
            check.due("as many types as can be", house.told(6), 300);
            check.due("DEFINITIONS", house.fault(2), room == 0 ? 0 : 1);
        }
        check.again();
        check.fillTypes(300 - places.length);
        check.sound(SUM);
        check.due("all 300", check.house.told(6), 300);
        check.comes("made", check.named("f"), 17, 3, 7);
        check.faultAt(8, "@(def g j((a i)(b z))?");
    }

    private static void noHandleRoom() {
        check.sentence("a HANDLE, a TARGET; by make()'s 4, 5).");
        // EMPTY, TARGET; SELF, MOVE; SELF, MOVE; CONSTANT, DROP; AS, OPERATION, DROP, FOLD, FOLD; AS, OPERATION, DROP, FOLD, FOLD
        int[] places = {0, 0, AT_A, AT_A, AT_B, AT_B, AT_2, AT_2, AT_TIMES, AT_TIMES, AT_TIMES, AT_TIMES, AT_TIMES,
            AT_PLUS, AT_PLUS, AT_PLUS, AT_PLUS, AT_PLUS};
        for (int room = 0; room < places.length; room++) {
            HandleHouse house = check.again();
            check.fillHandles(500 - room);
            check.due("handles ahead", house.told(7), 500 - room);
            check.faulty(SUM, 8, places[room]);
            check.due("as many handles as can be", house.told(7), 500);
            check.due("a DEFINITION", check.named("f") >= 0, room >= 2);
        }
        check.again();
        check.fillHandles(500 - places.length);
        check.sound(SUM);
        check.due("all 500", check.house.told(7), 500);
        check.comes("made", check.named("f"), 17, 3, 7);
    }

    /** Each form's last handle can't be made: at its (. */
    private static void noRoomInForms() {
        check.sentence("8 what can't be made (a TYPE, a HANDLE,");
        String[] parameters = {"(a z)", "(a i)", "(a i)", "(a z)(b i)", "(a i)", "(a i)", "(a i)", "(a z)", "(a z)", "(a i)", "(a xi)", "(a xi)(b i)",
            "(a xi)(b i)", "(a o)", "(a o)", "(a e)", "(a e)"};
        String[] bodies = {"(if a a a)", "(let(b a)a)", "(do a a)", "(loop((b b))(b)a b)", "(try a(x)a)", "(as j a)", "(force b a)", "(null o)", "(null e)",
            "(row xj a)", "(size a)", "(get a b)", "(set a b b)", "(is n a)", "(same a a)", "(throw v a)", "(code a)"};
        for (int i = 0; i < bodies.length; i++) {
            String text = "(def f v(" + parameters[i] + ")" + bodies[i] + ")";
            HandleHouse house = check.again();
            check.sound(text);
            boolean passed = house.handle(house.told(7) - 1, 1) == 12 && !bodies[i].startsWith("(as");
            int made = house.told(7) - (passed ? 1 : 0) - (bodies[i].startsWith("(as") ? 1 : 0);
            house = check.again();
            check.fillHandles(500 - made + 1);
            check.faulty(text, 8, text.indexOf(bodies[i]));
            check.due("as many handles as can be", house.told(7), 500);
        }
    }

    private static void noTargetRoom() {
        HandleHouse house = check.sentence("a TARGET; by make()'s 4, 5).");
        int one = check.constant(5, 1);
        for (int i = 0; i < 79; i++) {
            house.target(one);
        }
        check.sound("(def a i()1)");
        int handles = house.told(7);
        int types = house.told(6);
        check.faultAt(8, "@(def b j() 77)");
        check.due("EMPTY stays, nothing behind it", house.told(7), handles + 1);
        check.due("its TYPE stays", house.told(6), types + 1);
        check.due("no DEFINITION", house.fault(2), 1);
        check.due("no HANDLE with its NAME", check.named("b"), -1);
        house = check.again();
        check.fillHandles(499);
        check.faultAt(8, "@(def c j() 1)");
        check.due("EMPTY was made", house.told(7), 500);
        check.due("its TARGET stays, though its HANDLE can't be made", house.target(0), 2);
        check.due("no DEFINITION more", house.fault(2), 1);
    }

    private static void tooManyPlaces() {
        check.sentence("by make()'s 4, 5).");
        String six = "(a i)(b i)(c i)(d i)(e i)(f i)";
        check.faultAt(8, "(def g i(" + six + ")(let(g 1)(let(h 1)(let(k 1)(let(m 1)(let(n 1)@1))))))");
        check.faultAt(8, "(def h i(" + six + ")(let(g 1)(let(h 1)(let(k 1)(let(m 1)@(g 1 2 3 4 5 6))))))");
        check.faultAt(8, "(def k i(" + six + ")(let(g 1)(let(h 1)(let(k 1)@(+ a b)))))");
        check.sound("(def m i(" + six + ")(let(g 1)(let(h 1)(+ a b))))");
        check.comes("ten PLACES", check.named("m"), 3, 1, 2, 3, 4, 5, 6);
    }

    private static void whatWasMadeStays() {
        HandleHouse house = check.sentence("What was made until then stays, also a DEFINITION whose TARGET is not aimed anew.");
        check.faultAt(1, "(def a i()7)(def b j((x i))(+ x 1@?");
        check.due("two DEFINITIONS", house.fault(2), 2);
        check.comes("the first is aimed", check.named("a"), 7);
        check.comesTo("the second is EMPTY still", 0, 0, check.named("b"), 5);
        // EMPTY, TARGET, CONSTANT; EMPTY, TARGET, SELF, CONSTANT, DROP
        check.due("HANDLES stay", house.told(7), 8);
        check.comes("it is called by others", defined("c", "j()(+(b 1)8)"), 8);
        check.faultAt(6, "(def @b j()1)");
        check.faultAt(7, "@(def d b()1)");
        check.comes("also behind its )", check.named("d"), 0);
        check.due("four DEFINITIONS", house.fault(2), 4);
        check.due("its TARGET is aimed still, and so can be aimed", house.aim(3, check.named("d")), true);
    }

    /** Behind a FAULT nothing is made. */
    private static void nothingMore() {
        HandleHouse house = check.sentence("What was made until then stays,");
        String[] faulty = {"(+ q 77)", "(q 77)", "(as q 77)", "(? 77 88)", "(99999999999 77)", "(abcdefghi 77)", "(if q 77 88)", "(let(q)77)", "(let(q q)77)",
            "(do q 77)", "(loop((q))(77)88 99)", "(try q(q)77)", "(throw q 77)", "(null q)77", "(i ? 77)", "(as 5 77)", "(force 5 77)", "(row 5 77)", "(is 5 77)",
            "(throw 5 77)", "(as(77)88)", "(force q 77)", "(row q 77)", "(is q 77)", "(set 99999999999 77 88)", "(get q 77)"};
        for (String one : faulty) {
            house = check.again();
            check.read("(def i i()" + one + ")");
            check.due(one + ": a FAULT", house.fault(0) != 0, true);
            check.due(one + ": EMPTY and TARGET alone", house.told(7), 2);
            check.due(one + ": their TYPE alone", house.told(6), 1);
        }
        house = check.again();
        check.fillHandles(498);
        int types = house.told(6);
        check.faultAt(8, "(def a j()@77l)");
        check.due("TYPES: ()J", house.told(6), types + 1);
        house = check.again();
        check.fillHandles(498);
        types = house.told(6);
        check.faultAt(8, "(def a j((x z)(y xo))@77l)");
        check.due("no CONSTANT, so no TYPE but (Z XO)J", house.told(6), types + 1);
        house = check.again();
        check.fillHandles(498);
        types = house.told(6);
        check.faultAt(8, "(def a j((x z)(y xo))@x)");
        check.due("no SELF, so no TYPE but (Z XO)J", house.told(6), types + 1);
    }
}
