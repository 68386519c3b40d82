/** Sentences of Terms 8 (TEXTS) up to the FAULTS, and of promises 24 to 28. */
public final class EdgesTextsTest {
    private static final Check check = new Check("EdgesTextsTest");

    public static void main(String[] args) {
        textBytes();
        longestWords();
        numberWords();
        nameWords();
        signs();
        blanks();
        kindNames();
        resultV();
        definitions();
        parameters();
        definitionMade();
        definitionIsThere();
        definitionAimed();
        sixtyDefinitions();
        scope();
        partsInOrder();
        passedAs();
        applied();
        numbers();
        names();
        operations();
        everyTwoKinds();
        conditions();
        let();
        doing();
        loopVariables();
        loopScope();
        loopMade();
        attempts();
        as();
        force();
        nulls();
        rows();
        rowParts();
        is();
        same();
        throwing();
        code();
        calls();
        keywords();
        justTheParts();
        emptyVariables();
        feeding();
        feedZeros();
        ending();
        endRefused();
        reading();
        faultQuestions();
        named();
        check.end();
    }

    private static int def(String name, String rest) {
        check.sound("(def " + name + " " + rest + ")");
        return check.named(name);
    }

    private static void shape(String what, int h, int form, int a, int b, int... parts) {
        check.due(what + ": FORM", check.house.handle(h, 1), form);
        check.due(what + ": a", check.house.handle(h, 2), a);
        check.due(what + ": b", check.house.handle(h, 3), b);
        check.due(what + ": how many PARTS", check.house.handle(h, 4), parts.length);
        for (int i = 0; i < parts.length; i++) {
            check.due(what + ": PART " + i, check.house.handle(h, 5 + i), parts[i]);
        }
    }

    private static void forms(String what, int from, int... forms) {
        for (int i = 0; i < forms.length; i++) {
            check.due(what + ": FORM of " + (from + i), check.house.handle(from + i, 1), forms[i]);
        }
        check.due(what + ": how many HANDLES", check.house.told(7), from + forms.length);
    }

    private static void textBytes() {
        HandleHouse house = check.sentence("8. TEXTS. THE TEXT has at most 3000 bytes; read() takes it.");
        String start = "(def f i() 7)";
        StringBuilder text = new StringBuilder(start);
        while (text.length() < 2987) {
            text.append(' ');
        }
        check.due("3000 bytes", check.feed(text.append("(def g i() 8)").toString()), 3000);
        check.due("not one more", house.end(1), -1);
        check.due("read to the last byte", house.read(), 0);
        check.comes("the first", check.named("f"), 7);
        check.comes("the last", check.named("g"), 8);
        check.due("read() took it", house.end(0), 0);
        check.due("nothing is read again", house.read(), 0);
    }

    private static void longestWords() {
        check.sentence("WORDS, each as long as can be: ( and );");
        check.comes("a12 is one NAME", def("f", "i((a12 i))a12"), 5, 5);
        check.comes("12l is one NUMBER", def("g", "j()12l"), 12);
        check.comes("1l2 are two", def("h", "j()(+ 1l2)"), 3);
        check.comes("12a are two", def("k", "i((a i))(+ 12a)"), 17, 5);
        check.comes("1la are two: 1l, a", def("m", "j((a i))(+ 1la)"), 6, 5);
        check.comesTo("12k are two", 13, 17, def("m1", "o((k i))(+ 12k)"), 5);
        check.comesTo("12m are two", 13, 17, def("m2", "o((m i))(+ 12m)"), 5);
        check.comesTo("12z are two", 13, 17, def("m3", "o((z i))(+ 12z)"), 5);
        check.comes("without blanks", def("n", "i((a i)(b i))(-(+ a 1)(+ b 2))"), 4, 8, 3);
        check.faultAt(4, "(def p i()@))");
        check.faultAt(4, "(def q i()(@())");
    }

    private static void numberWords() {
        check.sentence("NUMBERS: digits, perhaps a - at once ahead, perhaps an l at once behind: of I, with l of J, in its bounds;");
        check.comes("the greatest of I", def("a", "i()2147483647"), Integer.MAX_VALUE);
        check.comes("the least of I", def("b", "i()-2147483648"), Integer.MIN_VALUE);
        check.comes("the greatest of J", def("c", "j()9223372036854775807l"), Long.MAX_VALUE);
        check.comes("the least of J", def("d", "j()-9223372036854775808l"), Long.MIN_VALUE);
        check.comes("zeros ahead", def("e", "i()00000000000000000000000000007"), 7);
        check.comes("-0", def("f", "i()-0"), 0);
        check.comes("-0l", def("g", "j()-0l"), 0);
        check.comesTo("of I", 13, 1, def("h", "o()1"));
        check.comesTo("of J", 14, 1, def("k", "o()1l"));
        String[] beyond = {"2147483648", "-2147483649", "9223372036854775808l", "-9223372036854775809l", "9223372036854775807",
            "18446744073709551616l", "18446744073709551616", "92233720368547758070l", "-92233720368547758080l", "99999999999999999999l"};
        for (String number : beyond) {
            check.again();
            check.faultAt(3, "(def x j()@" + number + ")");
        }
    }

    private static void nameWords() {
        check.sentence("NAMES: a .. z, then a .. z and 0 .. 9, 8 at most;");
        check.comes("eight", def("az09az09", "i((zzzzzzzz i))zzzzzzzz"), 5, 5);
        check.comes("one", def("z", "i((a i))a"), 6, 6);
        check.faultAt(2, "(def @abcdefghi i()1)");
        check.faultAt(2, "(def @a00000000 i()1)");
        check.faultAt(2, "(def y i((@aaaaaaaaa i))1)");
        check.faultAt(2, "(def y i()@aaaaaaaaaaaaaaaaaaaaaaaaaaaaaaaaaaaaaaaaaaaaaaaa)");
        check.faultAt(4, "(def @0a i()1)");
        check.faultAt(1, "(def @A i()1)");
        check.faultAt(1, "(def a@_ i()1)");
        check.faultAt(1, "(def @` i()1)");
        check.faultAt(1, "(def @{ i()1)");
        for (String behind : new String[] {"{", "~", "\u00ff", "_", "`", "A", "@", "/0"}) {
            check.read("(def a" + behind);
            check.due("a with " + behind + " behind: the place", check.house.fault(1), 6);
        }
        check.faultAt(4, "(def x i((a i))(+ a@|1))");
        check.comes("a| are two", def("w", "i((a i))(|a 6)"), 7, 3);
    }

    private static void signs() {
        check.sentence("+ - * / % & | ^ < = (a - with a digit at once behind begins a NUMBER).");
        String[] signs = {"+", "-", "*", "/", "%", "&", "|", "^", "<", "="};
        long[] due = {25, 13, 114, 3, 1, 19 & 6, 19 | 6, 19 ^ 6, 0, 0};
        for (int i = 0; i < signs.length; i++) {
            check.comes(signs[i], def("f" + i, "o((a i)(b i))(" + signs[i] + " a b)"), due[i], 19, 6);
        }
        check.comes("- and a blank: the sign", def("g", "i()(- 1 2)"), -1);
        check.comes("-1: a NUMBER", def("h", "i()(- -1 2)"), -3);
        check.comes("--1: the sign, a NUMBER", def("k", "i()(--1 2)"), -3);
        check.comes("1-2: two NUMBERS", def("m", "i()(+ 1-2)"), -1);
        check.faultAt(4, "(def n i()(@-1 2))");
        check.faultAt(4, "(def p i()(+ 1 @- 2))");
        check.faultAt(1, "(def q i()(@> 1 2))");
        check.faultAt(1, "(def r i()(@! 1 2))");
    }

    private static void blanks() {
        check.sentence("Bytes 32 and 10 may stand between any two WORDS.");
        check.comes("many", def("f", "\n\n i ( ( a i ) \n ) ( \n + \n a 1 \n ) \n "), 6, 5);
        check.sound("  \n (def g i()1)\n  \n(def h i()2) \n");
        check.due("both", check.house.fault(2), 3);
        check.comes("none", def("k", "i((a i))(+(* a a)1)"), 26, 5);
        for (int b : new int[] {0, 1, 9, 11, 12, 13, 31, 33, 127, 128, 160, 255}) {
            check.again();
            check.faultAt(1, "@" + (char) b);
            check.faultAt(1, "(def m i() 1 @" + (char) b + ")");
        }
        check.sound(" ");
        check.sound("\n");
    }

    private static void kindNames() {
        HandleHouse house = check.sentence("KINDS' names: z b s c i j o n, oz ob os oc oi oj, xi xj xo, h e, k0 to k11 for CLASSES that there are, by number;");
        String[] names = {"z", "b", "s", "c", "i", "j", "o", "n", "oz", "ob", "os", "oc", "oi", "oj", "xi", "xj", "xo", "h", "e",
            "k0", "k1", "k2", "k3", "k4", "k5", "k6", "k7", "k8", "k9", "k10", "k11"};
        for (int i = 0; i < names.length; i++) {
            int kind = i + 1;
            if (kind >= 20) {
                check.faultAt(6, "(def x @" + names[i]);
                house.newClass(7, 0);
            }
            check.hasType(names[i], def("f" + kind, names[i] + "((a " + names[i] + "))a"), kind, kind);
        }
        for (String none : new String[] {"k", "k12", "k00", "k01", "x", "ox", "xz", "zz", "oo", "on", "oh", "xe", "eh", "kk", "k111"}) {
            check.faultAt(6, "(def x @" + none);
        }
    }

    private static void resultV() {
        check.sentence("v where a RESULT is told.");
        check.hasType("of a DEFINITION", def("f", "v()1"), 0);
        check.hasType("of a throw", def("g", "v((a e))(throw v a)"), 0, 19);
        check.faultAt(6, "(def x i((a @v))1)");
        check.again();
        check.faultAt(6, "(def x v()(as @v 1))");
        check.again();
        check.faultAt(6, "(def x v()(force @v 1))");
        check.again();
        check.faultAt(6, "(def x v()(null @v))");
        check.again();
        check.faultAt(6, "(def x v()(row @v 1))");
        check.again();
        check.faultAt(6, "(def x v((a o))(is @v a))");
    }

    private static void definitions() {
        check.sentence("DEFINITIONS, one behind the other: ( def NAME RESULT ( PARAMETERS ) A ),");
        check.sound("(def f i()1)(def g i()2)");
        check.due("two", check.house.fault(2), 2);
        String[] wrong = {"@def", "@)", "@1", "@+", "@a", "(@", "(@)", "(@(", "(@1", "(@fed", "(@a", "(@d", "(@dee i", "(@deg", "(@if 1 2 3)", "(def@", "(def @(", "(def @1", "(def a@", "(def a @(",
            "(def a @1", "(def a i@", "(def a i @1", "(def a i @i", "(def a i(@", "(def a i(@1", "(def a i(@i", "(def a i()@", "(def b i()@)",
            "(def c i()1@", "(def d i()1 @1)", "(def e i()1 @(", "(def h i()1)@)"};
        for (String text : wrong) {
            check.faultAt(4, text);
        }
    }

    private static void parameters() {
        check.sentence("a PARAMETER being ( NAME KIND ), at most 6 with different names.");
        check.hasType("none", def("f", "i()1"), 5);
        check.hasType("six", def("g", "i((a z)(b b)(c s)(d c)(e i)(f j))e"), 5, 1, 2, 3, 4, 5, 6);
        check.comes("the fifth", check.named("g"), 7, 1, 2, 3, 4, 7, 6);
        check.faultAt(6, "(def h i((a i)(b i)(c i)(d i)(e i)(f i)(@g i))1)");
        check.faultAt(6, "(def h i((a i)(@a j))1)");
        check.faultAt(6, "(def h i((a i)(b i)(c i)(d i)(e i)(@a i))1)");
        check.faultAt(4, "(def h i((a i)(b i)(c i)(d i)(e i)(f i)(@1 i))1)");
        check.faultAt(4, "(def h i((a i@");
        check.faultAt(4, "(def h i((a @))1)");
        check.faultAt(4, "(def h i((a i @i))1)");
        check.faultAt(4, "(def h i((@))1)");
        check.due("none of these is there", check.house.fault(2), 2);
    }

    private static void definitionMade() {
        HandleHouse house = check.sentence("When the ) of the PARAMETERS was read, its TYPE is made, EMPTY of it, a TARGET aimed at that, TARGET, which is the"
            + " DEFINITION's HANDLE:");
        check.faultAt(4, "(def f j((a i)@");
        check.due("nothing yet", house.told(6) + house.told(7) + house.fault(2), 0);
        check.due("no HANDLE yet", check.named("f"), -1);
        check.faultAt(4, "(def f j((a i))@");
        check.due("one TYPE", house.told(6), 1);
        check.due("EMPTY, TARGET", house.told(7), 2);
        shape("EMPTY", 0, 34, 0, 0);
        shape("TARGET", 1, 29, 0, 0);
        check.due("the DEFINITION's HANDLE", check.named("f"), 1);
        check.hasType("of the TYPE", 1, 6, 5);
        check.comesTo("aimed at EMPTY", 0, 0, 1, 5);
        check.due("STEPS", house.told(1), 2);
        check.due("a TARGET more", house.target(0), 1);
    }

    private static void definitionIsThere() {
        HandleHouse house = check.sentence("there it is from then on.");
        check.faultAt(4, "(def f i()(f)@");
        check.due("one DEFINITION", house.fault(2), 1);
        check.faultAt(6, "(def @f i()1)");
        check.comes("called by another", def("g", "i()(+(f)1)"), 1);
        check.comes("by itself", def("h", "i((n i))(if(= n 0)0(+ 2(h(- n 1))))"), 8, 4);
        check.faultAt(6, "(def k i()(@m))(def m i()1)");
    }

    private static void definitionAimed() {
        HandleHouse house = check.sentence("When its ) was read A is passed as the RESULT, and the TARGET aimed at that.");
        check.faultAt(4, "(def f o()7@");
        check.comesTo("not aimed anew", 0, 0, check.named("f"));
        check.comesTo("A passed as O", 13, 7, def("g", "o()7"));
        check.due("the last made is AS", house.handle(house.told(7) - 1, 1), 12);
        check.comesTo("A passed as V", 0, 0, def("h", "v()7"));
        check.comesTo("V passed as I", 0, 0, def("k", "i((r xi))(set r 0 1)"), check.row(15, 1));
        check.faultAt(7, " @(def m b()7)");
        check.comesTo("it stays at EMPTY", 0, 0, check.named("m"));
        check.due("it is there", house.fault(2), 5);
    }

    private static void sixtyDefinitions() {
        HandleHouse house = check.sentence("60 DEFINITIONS at most.");
        StringBuilder text = new StringBuilder();
        for (int i = 0; i < 60; i++) {
            text.append("(def d").append(i).append(" i()").append(i).append(")");
        }
        check.sound(text.toString());
        check.due("60", house.fault(2), 60);
        check.comes("the first", check.named("d0"), 0);
        check.comes("the last", check.named("d59"), 59);
        check.faultAt(6, "(def @more i()1)");
        check.faultAt(6, "(def @d0 i()1)");
        check.due("60", house.fault(2), 60);
        check.due("no HANDLE", check.named("more"), -1);
    }

    private static void scope() {
        HandleHouse house = check.sentence("A, B, C .. below are EXPRESSIONS. The SCOPE is a row of variables with kinds, a DEFINITION's PARAMETERS at first; the HANDLE"
            + " of an EXPRESSION has the SCOPE's kinds as PLACES, its kind is its RESULT's.");
        check.sound("(def f j((a i)(b o))7l)");
        check.hasType("a NUMBER", house.told(7) - 1, 6, 5, 7);
        check.sound("(def g i((a i)(b o))a)");
        check.hasType("a NAME", house.told(7) - 1, 5, 5, 7);
        check.sound("(def h i((a i)(b o))(let(c 5l)a))");
        check.hasType("a let", house.told(7) - 1, 5, 5, 7);
        check.hasType("its B", house.told(7) - 2, 5, 6, 5, 7);
        check.sound("(def k i()7)");
        check.hasType("no variables", house.told(7) - 1, 5);
    }

    private static void partsInOrder() {
        HandleHouse house = check.sentence("When its ) was read (or its one WORD) its parts, whose HANDLES were made as they were read, are passed as told, from the"
            + " left, then what it is is made.");
        check.sound("(def f j((a b)(b s))(+ a(+ b 1l)))");
        // EMPTY, TARGET; SELF, MOVE of a; SELF, MOVE of b; CONSTANT, DROP; AS of b; OPERATION, DROP, FOLD, FOLD; AS of a; FOLD, FOLD
        forms("f", 0, 34, 29, 2, 5, 2, 5, 0, 4, 12, 3, 4, 8, 8, 12, 8, 8);
        check.faultAt(4, "(def g i((a i)(b i))(+ a b@");
        check.due("parts were made as they were read", house.told(7), 16 + 2 + 3);
        check.again();
        check.sound("(def h i((a b)(b b))(+ a b))");
        // EMPTY, TARGET; SELF, MOVE of a; MOVE of b; AS of a, AS of b; OPERATION, DROP, FOLD, FOLD
        forms("h", 0, 34, 29, 2, 5, 5, 12, 12, 3, 4, 8, 8);
        check.due("passed from the left", check.house.handle(5, 5), 3);
        check.due("then the next", check.house.handle(6, 5), 4);
    }

    private static void passedAs() {
        HandleHouse house = check.sentence("PASSED as k: if it is of another kind, AS of TYPE (SCOPE) k; 7 if it MAY not (as RESULT).");
        check.sound("(def f i((a i)(b j))(as i a))");
        check.due("of that kind: as it is", house.handle(house.told(7) - 1, 1), 5);
        check.sound("(def g o((a i)(b j))(as o a))");
        int as = house.told(7) - 1;
        check.due("AS", house.handle(as, 1), 12);
        check.hasType("of TYPE (SCOPE) k", as, 7, 5, 6);
        check.faultAt(7, "(def h i((a i)(b j))@(as b a))");
        check.comesTo("V MAY be passed as any", 0, 0, def("k", "o((r xi))(as o(set r 0 1))"), check.row(15, 1));
        check.faultAt(7, "(def m i((a e))@(as i a))");
    }

    private static void applied() {
        HandleHouse house = check.sentence("TO APPLY x with m PLACES to m parts: DROP of x at m by the TYPE (SCOPE) and x's RESULT; FOLD of that with the last part at"
            + " m - 1; and so on, with the first part at 0.");
        check.sound("(def f v((r xj)(i i)(v j))(set r i v))");
        // EMPTY, TARGET; SELF, MOVE of each of three; SET, DROP, FOLD, FOLD, FOLD
        forms("f", 0, 34, 29, 2, 5, 2, 5, 2, 5, 23, 4, 8, 8, 8);
        shape("DROP at 3", 9, 4, 3, house.handle(9, 3), 8);
        check.due("by the TYPE (SCOPE) and V", house.typeAbout(house.handle(9, 3), -1), 0);
        check.due("of three PLACES", house.typeAbout(house.handle(9, 3), -2), 3);
        check.hasType("DROP", 9, 0, 16, 5, 6, 16, 5, 6);
        shape("the last part at 2", 10, 8, 2, 0, 9, 7);
        shape("the next at 1", 11, 8, 1, 0, 10, 5);
        shape("the first at 0", 12, 8, 0, 0, 11, 3);
        check.again();
        check.sound("(def f i((a i)(b i)(c i)(d i)(e i)(f i))(let(g 1)(let(h 2)(+ g h))))");
        check.comes("two PLACES and a SCOPE of eight", check.named("f"), 3, 1, 2, 3, 4, 5, 6);
        check.faultAt(8, "(def g i((a i)(b i)(c i)(d i)(e i)(f i))(let(g 1)(let(h 2)(let(k 3)@(+ g h)))))");
        check.faultAt(8, "(def h i((a xi)(b i)(c i)(d i)(e i)(f i))(let(g 1)(let(h 2)@(set a 0 1))))");
        check.again();
        check.sound("(def f i()1)(def g i((a i))(f))");
        forms("no PLACES: DROP alone", 0, 34, 29, 0, 34, 29, 4);
        shape("DROP at 0", 5, 4, 0, check.house.handle(5, 3), 1);
        check.again();
        check.due("HANDLE 0", check.make(3, 0, 5, 0), 0);
        check.comes("of HANDLE 0", def("f", "i()(+ 1 2)"), 3);
        check.again();
        check.sound("(def f i()1)(def g i((a i))(f))");
        check.sound("(def h i()(f))");
        check.due("no SCOPE, no PLACES: x itself, EMPTY is there", check.house.told(7), 7);
    }

    private static void numbers() {
        HandleHouse house = check.sentence("A NUMBER: CONSTANT applied.");
        check.sound("(def f j((a i))-5l)");
        forms("f", 0, 34, 29, 0, 4);
        check.due("its kind", house.handle(2, 2), 6);
        check.due("its number", house.constant(2), -5);
        shape("DROP", 3, 4, 0, house.handle(3, 3), 2);
        check.sound("(def g j()-5l)");
        check.due("without a SCOPE the CONSTANT itself", house.told(7), 6);
    }

    private static void names() {
        HandleHouse house = check.sentence("A NAME: the first variable with it in the SCOPE: MOVE of SELF of its kind to TYPE (SCOPE) and its kind, by its place.");
        check.sound("(def f o((a i)(b o)(c j))b)");
        forms("f", 0, 34, 29, 2, 5);
        shape("SELF", 2, 2, 7, 0);
        shape("MOVE", 3, 5, 0, house.handle(3, 3), 2, 1);
        check.hasType("MOVE", 3, 7, 5, 7, 6);
        check.comes("the first with the NAME", def("g", "i((a i))(let(a(+ a 1))(let(a(* a a))a))"), 16, 3);
        check.sound("(def h i((a i))a)");
        check.due("the one variable: SELF itself, which is there", house.handle(house.told(7) - 1, 1), 29);
        check.faultAt(6, "(def k i((a i))@b)");
        check.faultAt(6, "(def m i((a i))@m)");
        check.due("its TYPE made behind that of SELF", check.again().told(6), 0);
        check.sound("(def f j((a i)(b j))b)");
        check.due("TYPE 0 is (I J)J", check.house.typeAbout(0, -2), 2);
        check.due("TYPE 1 is that of SELF", check.house.typeAbout(1, -2), 1);
    }

    private static final String[] KINDS = {"z", "b", "s", "c", "i", "j", "o", "n", "oz", "ob", "os", "oc", "oi", "oj", "xi", "xj", "xo", "h", "e"};

    /** The RESULT's kind of the last HANDLE of a FORM. */
    private static int lastOf(int form) {
        HandleHouse house = check.house;
        for (int h = house.told(7) - 1; h >= 0; h--) {
            if (house.handle(h, 1) == form) {
                return house.typeAbout(house.handle(h, 0), -1);
            }
        }
        return -1;
    }

    /** Parts of each kind with parts of each. */
    private static void everyTwoKinds() {
        HandleHouse house = check.sentence("both passed as J, if one is of J or OJ, else as I;");
        for (int k = 1; k <= 19; k++) {
            String head = "(def f v((a z)(r xi)(b " + KINDS[k - 1] + "))";
            check.again();
            check.faulty(head + "(if a b(set r 0 1)))", 7, head.length());
            check.again();
            check.faulty(head + "(if a(set r 0 1)b))", 7, head.length());
        }
        for (int b = 1; b <= 19; b++) {
            for (int c = 1; c <= 19; c++) {
                String head = "(def f v((a z)(b " + KINDS[b - 1] + ")(c " + KINDS[c - 1] + "))";
                house = check.again();
                boolean asFirst = house.may(c, b, false);
                boolean asSecond = house.may(b, c, false);
                check.faulty(head + "(if a b c))", asFirst || asSecond ? 0 : 7, asFirst || asSecond ? -1 : head.length());
                check.due("the kind of the if", lastOf(14), asFirst ? b : asSecond ? c : -1);
                house = check.again();
                int wide = b == 6 || c == 6 || b == 14 || c == 14 ? 6 : 5;
                boolean may = house.may(b, wide, false) && house.may(c, wide, false);
                check.faulty(head + "(+ b c))", may ? 0 : 7, may ? -1 : head.length());
                check.due("the kind of the +", lastOf(3), may ? wide : -1);
            }
        }
    }

    private static void operations() {
        check.sentence("( OP A B ): both passed as J, if one is of J or OJ, else as I; OPERATION applied (% rest, < less, = equal).");
        check.comesTo("I and I", 13, 7, def("a", "o((a i)(b i))(+ a b)"), 3, 4);
        check.comesTo("J and I", 14, 7, def("b", "o((a j)(b i))(+ a b)"), 3, 4);
        check.comesTo("I and J", 14, 7, def("c", "o((a i)(b j))(+ a b)"), 3, 4);
        check.comesTo("OJ and I", 14, 7, def("d", "o((a oj)(b i))(+ a b)"), check.box(6, 3), 4);
        check.comesTo("B and OJ", 14, 7, def("e", "o((a b)(b oj))(+ a b)"), 3, check.box(6, 4));
        check.comesTo("B and C", 13, 7, def("f", "o((a b)(b c))(+ a b)"), 3, 4);
        check.comesTo("O and N as I", 13, 7, def("g", "o((a o)(b n))(+ a b)"), check.box(5, 3), check.box(2, 4));
        check.fails("O that is a box of J as I", check.named("g"), 2, check.box(6, 3), check.box(2, 4));
        check.comesTo("O and J", 14, 7, def("h", "o((a o)(b j))(+ a b)"), check.box(6, 3), 4);
        check.comesTo("rest", 13, -1, def("k", "o((a i)(b i))(% a b)"), -7, 2);
        check.comesTo("less is Z", 9, 1, def("m", "o((a i)(b i))(< a b)"), -7, 2);
        check.comesTo("equal is Z", 9, 0, def("n", "o((a j)(b i))(= a b)"), 1L << 32, 0);
        check.faultAt(7, "(def x1 o((a z)(b i))@(+ a b))");
        check.faultAt(7, "(def x2 o((a i)(b oz))@(+ a b))");
        check.faultAt(7, "(def x3 o((a xj)(b i))@(+ a b))");
        check.faultAt(4, "(def x4 i()(+ 1 @))");
        check.faultAt(4, "(def x5 i()(+ 1 2 @3))");
        check.faultAt(7, "(def x6 i((a i)(b xi))@(+ a b))");
        int made = check.house.told(7);
        check.faultAt(7, "(def x7 i((a i)(b xi))@(+ a b))");
        check.due("I as it is, with a ROW: no AS is made", check.house.told(7), made + 1);
        check.again();
        check.faultAt(7, "(def x8 i((a i)(b e))@(+ a b))");
        check.due("EMPTY, TARGET, SELF, MOVE, SELF, MOVE", check.house.told(7), 6);
        check.again();
        check.comesTo("V as I", 13, 5, def("p", "o((r xi))(+(set r 0 1)5)"), check.row(15, 1));
    }

    private static void conditions() {
        HandleHouse house = check.sentence("( if A B C ): A passed as Z; then C as B's kind, if it is that or MAY be passed (not as RESULT), else B as C's, likewise"
            + " (else 7); GUARD.");
        check.comesTo("C as B's kind", 14, 2, def("a", "o((a z))(if a 1l 2)"), 0);
        check.comesTo("B as C's kind", 14, 1, def("b", "o((a z))(if a 1 2l)"), 1);
        check.comesTo("C as B's, though B MAY be passed as C's", 13, 2, def("c", "oi((a z)(b oi)(c o))(if a b c)"), 0, -1, check.box(5, 2));
        check.fails("so C may be no value of B's kind", check.named("c"), 2, 0, -1, check.box(6, 2));
        check.comesTo("of one kind", 0, 0, def("d", "e((a z)(b e)(c e))(if a b c)"), 0, -1, -1);
        check.comes("both of V", def("e", "v((a z)(r xi))(if a(set r 0 1)(set r 0 2))"), 0, 0, check.row(15, 1));
        check.comes("A passed as Z", def("f", "i((a o))(if a 1 2)"), 1, check.box(1, 1));
        check.fails("A's ERROR", check.named("f"), 2, check.box(5, 1));
        check.comes("A of V", def("g", "i((r xi))(if(set r 0 1)1 2)"), 2, check.row(15, 1));
        check.faultAt(7, "(def x1 i()@(if 1 1 2))");
        check.faultAt(7, "(def x2 v((a z)(r xi))@(if a 1(set r 0 2)))");
        check.faultAt(7, "(def x3 v((a z)(r xi))@(if a(set r 0 2)1))");
        check.faultAt(7, "(def x4 v((a z))@(if a 1(null e)))");
        check.sound("(def h i((a z))(if a 1 2))");
        int guard = house.told(7) - 1;
        check.due("GUARD", house.handle(guard, 1), 14);
        check.hasType("of the SCOPE", guard, 5, 1);
        check.faultAt(4, "(def x5 i()(if(= 1 1)1@))");
        check.faultAt(4, "(def x6 i()(if(= 1 1)1 2 @3))");
    }

    private static void let() {
        HandleHouse house = check.sentence("( let ( NAME A ) B ): B's SCOPE has NAME ahead; FOLD of B with A at 0.");
        check.sound("(def f j((a i))(let(b 5l)b))");
        // EMPTY, TARGET; CONSTANT, DROP; SELF, MOVE; FOLD
        forms("f", 0, 34, 29, 0, 4, 2, 5, 8);
        check.hasType("B", 5, 6, 6, 5);
        shape("NAME is ahead", 5, 5, 0, house.handle(5, 3), 4, 0);
        shape("FOLD", 6, 8, 0, 0, 5, 3);
        check.comes("the SCOPE behind it is as it was", def("f1", "i((a i)(b i)(c i))(+(let(x 1)(+ x a))(-(* 100 b)c))"), 1994, 3, 20, 10);
        check.comes("also behind a loop", def("f2", "i((a i)(b i)(c i))(+(loop((x 1)(y 2))(2 3)(= x 1)y)(-(* 100 b)(+ a c)))"), 1990, 3, 20, 10);
        check.comes("also behind a try", def("f3", "i((a i)(b i)(c i))(+(try(/ a 0)(x)(+ a(code x)))(-(* 100 b)(+ a c)))"), 1993, 3, 20, 10);
        check.faultAt(6, "(def x1 i()(let(b @b)1))");
        check.faultAt(6, "(def x2 i()(+(let(b 1)b)@b))");
        check.faultAt(4, "(def x3 i()(let @b 1 b))");
        check.faultAt(4, "(def x4 i()(let(b@)b))");
        check.faultAt(4, "(def x5 i()(let(b 1 @2)b))");
        check.faultAt(4, "(def x6 i()(let(b 1)@))");
        check.faultAt(4, "(def x7 i()(let(b 1)b @b))");
        check.faultAt(4, "(def x8 i()(let(@1 1)b))");
        check.again();
        check.sound("(def f i((a i)(b i)(c i)(d i)(e i)(f i))(let(g 1)(let(h 2)(let(k 3)(let(m 4)m)))))");
        check.comes("ten variables", check.named("f"), 4, 1, 2, 3, 4, 5, 6);
        check.faultAt(8, "(def g i((a i)(b i)(c i)(d i)(e i)(f i))(let(g 1)(let(h 2)(let(k 3)(let(m 4)(let(n 5)@n))))))");
    }

    private static void doing() {
        HandleHouse house = check.sentence("( do A B ): A passed as V; FOLD of B with A at 0.");
        check.sound("(def f i((a i))(do a 5))");
        // EMPTY, TARGET; SELF; CONSTANT, DROP; AS; FOLD
        forms("f", 0, 34, 29, 2, 0, 4, 12, 8);
        check.hasType("A passed as V", 5, 0, 5);
        shape("FOLD", 6, 8, 0, 0, 4, 5);
        check.comes("A, then B", def("g", "i((r xi))(do(set r 0 7)(get r 0))"), 7, check.row(15, 1));
        check.faultAt(4, "(def x1 i()(do 1@))");
        check.faultAt(4, "(def x2 i()(do 1 2 @3))");
    }

    private static void loopVariables() {
        check.sentence("( loop ( ( NAME A ) .. ) ( B .. ) C D ): 1 to 3 variables, and as many Bs;");
        check.comes("one", def("a", "i((n i))(loop((i 0))((+ i 1))(< i n)i)"), 5, 5);
        check.comes("three", def("b", "i((n i))(loop((i 0)(s 0)(p 1))((+ i 1)(+ s i)(* p i))(< i n)(+ s p))"), 15 + 120, 5);
        check.faultAt(4, "(def x1 i()(loop(@)(1)(= 1 1)1))");
        check.faultAt(4, "(def x2 i()(loop((a 1)(b 1)(c 1)@(d 1))(1 1 1 1)(= 1 1)1))");
        check.faultAt(4, "(def x3 i()(loop((a 1)(b 1))(1@)(= 1 1)1))");
        check.faultAt(4, "(def x4 i()(loop((a 1)(b 1))(1 1 @1)(= 1 1)1))");
        check.faultAt(4, "(def x5 i()(loop((a 1))(@)(= 1 1)1))");
        check.faultAt(4, "(def x6 i()(loop((a 1))@1(= 1 1)1))");
        check.faultAt(4, "(def x7 i()(loop @a(1)(= 1 1)1))");
        check.faultAt(4, "(def x8 i()(loop(@a)(1)(= 1 1)1))");
        check.faultAt(4, "(def x9 i()(loop((@1 1))(1)(= 1 1)1))");
        check.faultAt(4, "(def y1 i()(loop((a 1 @2))(1)(= 1 1)1))");
        check.faultAt(4, "(def y2 i()(loop((a 1))(1)(= 1 1)@))");
        check.faultAt(4, "(def y3 i()(loop((a 1))(1)(= 1 1)1 @1))");
    }

    private static void loopScope() {
        check.sentence("their SCOPE, C's and D's, has the NAMES ahead, in their order; each B passed as its A's kind, C as Z;");
        check.comes("in their order", def("a", "i((x i))(loop((a 1)(b 20))((+ a b)(+ a b))(= 1 2)(- b(+ a x)))"), 41 - 21 - 5, 5);
        check.faultAt(6, "(def x1 i()(loop((a 1)(b @a))(1 1)(= 1 1)1))");
        check.faultAt(6, "(def x2 i()(+(loop((a 1))(1)(= 1 2)a)@a))");
        check.comes("the NAMES hide others", def("b", "i((x i))(loop((x(+ x 1)))(x)(= 1 2)x)"), 6, 5);
        check.comes("two of one NAME: the first", def("c", "i()(loop((a 1)(a 2))((+ a 10)(+ a 20))(= 1 2)a)"), 11);
        check.comesTo("B passed as its A's kind", 14, 4, def("d", "o()(loop((a 1l))(4)(= 1 2)a)"));
        check.comesTo("the second B as its A's", 14, 5, def("e", "o()(loop((a 1)(b 1l))(4 5)(= 1 2)b)"));
        check.comes("C as Z", def("f", "i((c o))(loop((a 1))(2)c a)"), 2, check.box(1, 0));
        check.fails("C's ERROR", check.named("f"), 2, check.box(5, 0));
        check.faultAt(7, "(def x3 i()@(loop((a 1))(1l)(= 1 1)1))");
        check.faultAt(7, "(def x4 i()@(loop((a 1)(b 2))(1(null e))(= 1 1)1))");
        check.faultAt(7, "(def x5 i()@(loop((a 1))(1)1 1))");
        check.again();
        check.sound("(def f i((a z)(b i)(c i)(d i)(e i)(f i))(let(g 1)(loop((h 1)(k 2)(m 3))(h k f)a m)))");
        check.comes("ten variables", check.named("f"), 6, 0, 2, 3, 4, 5, 6);
        check.faultAt(8, "(def g i((a i)(b i)(c i)(d i)(e i)(f i))(let(g 1)(let(n 1)(loop((h 1)(k 2)(m 3))(@h k m)a m))))");
    }

    private static void loopMade() {
        HandleHouse house = check.sentence("LOOP of TYPE (SCOPE) and D's kind: for each variable A, B, -1, -1, then -1, -1, C, D.");
        check.sound("(def f j((n i))(loop((a 1)(b 2l))(a b)(= a n)b))");
        int loop = house.told(7) - 1;
        check.due("LOOP", house.handle(loop, 1), 18);
        check.hasType("of TYPE (SCOPE) and D's kind", loop, 6, 5);
        check.due("three clauses", house.handle(loop, 4), 12);
        int[] none = {2, 3, 6, 7, 8, 9};
        for (int part : none) {
            check.due("PART " + part, house.handle(loop, 5 + part), -1);
        }
        check.hasType("A", house.handle(loop, 5), 5, 5);
        check.hasType("B", house.handle(loop, 6), 5, 5, 6, 5);
        check.hasType("the second A", house.handle(loop, 9), 6, 5);
        check.hasType("the second B", house.handle(loop, 10), 6, 5, 6, 5);
        check.hasType("C", house.handle(loop, 15), 1, 5, 6, 5);
        check.hasType("D", house.handle(loop, 16), 6, 5, 6, 5);
        check.comes("D of V", def("g", "v((r xi))(loop((a 0))((+ a 1))(< a 3)(set r 0 a))"), 0, check.row(15, 1));
        check.due("it was set", house.element(0, 0, 0), 3);
    }

    private static void attempts() {
        HandleHouse house = check.sentence("( try A ( NAME ) B ): B's SCOPE has NAME of E ahead; B passed as A's kind; CATCH of E.");
        check.sound("(def f j((a j))(try(/ 9 a)(x)(code x)))");
        int caught = house.told(7) - 1;
        check.due("CATCH", house.handle(caught, 1), 15);
        check.due("of E", house.handle(caught, 2), 19);
        check.hasType("of the SCOPE", caught, 6, 6);
        int b = house.handle(caught, 6);
        check.due("B passed", house.handle(b, 1), 12);
        check.hasType("E ahead", b, 6, 19, 6);
        check.comes("caught", check.named("f"), 3, 0);
        check.comes("nothing thrown", check.named("f"), 3, 3);
        check.comes("the NAME hides another", def("g", "i((a i))(try(/ 9 a)(a)(code a))"), 3, 0);
        check.faultAt(7, "(def x1 i((a i))@(try a(x)5l))");
        check.faultAt(6, "(def x2 i((a i))(+(try a(x)1)@x))");
        check.faultAt(6, "(def x3 i((a i))(try @x(x)1))");
        check.faultAt(4, "(def x4 i((a i))(try a @x 1))");
        check.faultAt(4, "(def x5 i((a i))(try a(@)1))");
        check.faultAt(4, "(def x6 i((a i))(try a(x @1)1))");
        check.faultAt(4, "(def x7 i((a i))(try a(x)@))");
        check.faultAt(4, "(def x8 i((a i))(try a(x)1 @1))");
        check.again();
        check.faultAt(8, "(def g i((a i)(b i)(c i)(d i)(e i)(f i))(let(g 1)(let(h 2)(let(k 3)(let(m 4)(try 1(n)@n))))))");
    }

    private static void as() {
        check.sentence("( as KIND A ): passed.");
        check.comesTo("as O", 10, -5, def("f", "o((a b))(as ob a)"), -5);
        check.comes("of its own kind", def("g", "i((a i))(as i a)"), 5, 5);
        check.faultAt(7, "(def x1 i((a j))@(as i a))");
        check.faultAt(6, "(def x2 i((a j))(as @k0 a))");
        check.faultAt(4, "(def x3 i((a j))(as i@))");
        check.faultAt(4, "(def x4 i((a j))(as @1 a))");
        check.faultAt(4, "(def x5 i((a j))(as i 1 @1))");
    }

    private static void force() {
        HandleHouse house = check.sentence("( force KIND A ): FORCED to TYPE (SCOPE) KIND.");
        check.sound("(def f b((a i)(b j))(force b a))");
        int forced = house.told(7) - 1;
        check.due("FORCED", house.handle(forced, 1), 13);
        check.hasType("TYPE (SCOPE) KIND", forced, 2, 5, 6);
        check.comes("its lowest bits", check.named("f"), -128, 128, 0);
        check.comes("NULL", def("g", "i((a o))(force i a)"), 0, -1);
        check.sound("(def h i((a i)(b j))(force i a))");
        check.due("of its own kind: as it is", house.handle(house.told(7) - 1, 1) == 13, false);
        check.comesTo("V", 0, 0, def("k", "o((r xi))(force o(set r 0 1))"), check.row(15, 1));
        check.faultAt(7, "(def x1 i((a h))@(force i a))");
        check.faultAt(7, "(def x2 i((a i))@(force oj a))");
        check.faultAt(4, "(def x3 i((a i))(force i@))");
    }

    private static void nulls() {
        HandleHouse house = check.sentence("( null KIND ): CONSTANT NULL of a REFERENCE applied.");
        check.sound("(def f xi((a i))(null xi))");
        forms("f", 0, 34, 29, 0, 4);
        shape("CONSTANT", 2, 0, 15, 0);
        check.due("NULL", house.constant(2), -1);
        check.comesTo("NULL", 0, 0, check.named("f"), 1);
        for (String kind : new String[] {"z", "b", "s", "c", "i", "j"}) {
            check.again();
            check.faultAt(7, "(def x o()@(null " + kind + "))");
        }
        check.again();
        check.sound("(def f o()(null o))(def g e()(null e))(def h oz()(null oz))");
        check.faultAt(6, "(def x o()(null @k0))");
        check.faultAt(4, "(def y o()(null o @1))");
        check.faultAt(4, "(def z o()(null@))");
    }

    private static void rows() {
        check.sentence("( row KIND A ): A as I, NEW ROW applied.");
        check.comesTo("xi", 15, 3, def("f", "o((n b))(row xi n)"), 3);
        check.comesTo("xj", 16, 0, def("g", "o((n i))(row xj n)"), 0);
        check.comesTo("xo", 17, 100, def("h", "o((n o))(row xo n)"), check.box(5, 100));
        check.fails("below 0", check.named("g"), 4, -1);
        check.due("101", check.run(check.named("g"), 99, 101), 4);
        check.faultAt(7, "(def x1 o()@(row o 1))");
        check.faultAt(7, "(def x2 o()@(row i 1))");
        check.faultAt(7, "(def x3 o()@(row xi 1l))");
        check.faultAt(4, "(def x4 o()(row xi@))");
        check.faultAt(4, "(def x5 o()(row @1 1))");
    }

    private static void rowParts() {
        check.sentence("( size A ), ( get A B ), ( set A B C ): A's kind is a ROW; B as I, C as its ELEMENTS'; SIZE, GET, SET applied.");
        int row = check.row(16, 3);
        check.comes("size", def("a", "i((r xj))(size r)"), 3, row);
        check.comes("set", def("b", "v((r xj)(k b)(v i))(set r k v)"), 0, row, 2, 77);
        check.comes("get", def("c", "j((r xj)(k o))(get r k)"), 77, row, check.box(5, 2));
        check.fails("no such ELEMENT", check.named("c"), 6, row, check.box(5, 3));
        check.fails("NULL", check.named("a"), 1, -1);
        int objects = check.row(17, 1);
        check.comes("C as O", def("d", "v((r xo)(v c))(set r 0 v)"), 0, objects, 9);
        check.due("its BOX", check.house.element(objects, 0, 1), 12);
        for (String kind : new String[] {"o", "i", "oi", "h"}) {
            check.again();
            check.faultAt(7, "(def x1 i((r " + kind + "))@(size r))");
            check.faultAt(7, "(def x2 i((r " + kind + "))@(get r 0))");
            check.faultAt(7, "(def x3 i((r " + kind + "))@(set r 0 0))");
        }
        check.faultAt(7, "(def y1 i((r xi))@(get r 0l))");
        check.faultAt(7, "(def y2 i((r xi))@(set r 0l 0))");
        check.faultAt(7, "(def y3 i((r xi))@(set r 0 0l))");
        check.faultAt(4, "(def y4 i((r xi))(size@))");
        check.faultAt(4, "(def y5 i((r xi))(get r@))");
        check.faultAt(4, "(def y6 i((r xi))(set r 0@))");
        check.faultAt(4, "(def y7 i((r xi))(set r 0 0 @0))");
    }

    private static void is() {
        check.sentence("( is KIND A ): A as O, IS of a REFERENCE applied.");
        check.comes("its box", def("a", "z((a i))(is oi a)"), 1, 5);
        check.comes("another box", def("b", "z((a i))(is oj a)"), 0, 5);
        check.comes("NULL", def("c", "z((a xi))(is xi a)"), 0, -1);
        check.comes("V is NULL", def("d", "z((r xi))(is o(set r 0 1))"), 0, check.row(15, 1));
        check.faultAt(7, "(def x1 z((a o))@(is i a))");
        check.faultAt(7, "(def x2 z((a o))@(is z a))");
        check.faultAt(6, "(def x3 z((a o))(is @k0 a))");
        check.faultAt(4, "(def x4 z((a o))(is o@))");
    }

    private static void same() {
        check.sentence("( same A B ): both as O, SAME applied.");
        check.comes("two boxes of one number", def("a", "z((a i)(b i))(same a b)"), 1, 5, 5);
        check.comes("of two kinds", def("b", "z((a i)(b j))(same a b)"), 0, 5, 5);
        check.comes("NULL and NULL", def("c", "z((a xi)(b e))(same a b)"), 1, -1, -1);
        check.faultAt(4, "(def x1 z((a o))(same a@))");
        check.faultAt(4, "(def x2 z((a o))(same a a @a))");
    }

    private static void throwing() {
        HandleHouse house = check.sentence("( throw KIND A ), or RESULT v: A's kind is BELOW E; THROW applied.");
        house.newClass(7, 0);
        house.newClass(19, 0);
        house.newClass(21, 0);
        int error = check.kept(check.make(3, 3, 5, 0), 1, 0);
        check.fails("E", def("a", "i((a e))(throw i a)"), 3, error);
        check.fails("NULL", check.named("a"), 1, -1);
        check.due("a CLASS BELOW E", check.run(def("b", "xo((a k2))(throw xo a)"), 99, check.instance(22)), 1);
        check.due("it", house.told(3), 22);
        check.fails("RESULT v", def("c", "v((a e))(throw v a)"), 3, error);
        check.faultAt(7, "(def x1 i((a o))@(throw i a))");
        check.faultAt(7, "(def x2 i((a k0))@(throw i a))");
        check.faultAt(7, "(def x3 i((a i))@(throw i a))");
        check.faultAt(7, "(def x4 i((a h))@(throw v a))");
        check.faultAt(6, "(def x5 i((a e))(throw @k3 a))");
        check.faultAt(4, "(def x6 i((a e))(throw i@))");
        check.faultAt(4, "(def x7 i((a e))(throw i a @a))");
    }

    private static void code() {
        check.sentence("( code A ): A as E, CODE applied.");
        int error = check.kept(check.make(3, 3, 5, 0), 1, 0);
        check.comes("E", def("a", "i((a e))(code a)"), 3, error);
        check.comes("O as E", def("b", "i((a o))(code a)"), 3, error);
        check.fails("O that is none", check.named("b"), 2, check.row(15, 1));
        check.fails("NULL", check.named("b"), 1, -1);
        check.faultAt(7, "(def x1 i((a i))@(code a))");
        check.faultAt(4, "(def x2 i((a i))(code@))");
        check.faultAt(4, "(def x3 i((a e))(code a @a))");
    }

    private static void calls() {
        HandleHouse house = check.sentence("( NAME A .. ): a DEFINITION's: each passed as its PARAMETER's kind, its HANDLE applied.");
        check.sound("(def f j((a j)(b o))(+ a 1))");
        int before = house.told(7);
        check.sound("(def g j((a i))(f a a))");
        // EMPTY, TARGET (SELF and MOVE are SELF of I, which is new); AS J, AS O; DROP, FOLD, FOLD
        check.due("AS for each, then DROP, FOLD, FOLD", house.handle(house.told(7) - 1, 1), 8);
        check.due("DROP of its HANDLE", house.handle(house.told(7) - 3, 5), check.named("f"));
        check.due("so many", house.told(7), before + 8);
        check.comes("called", check.named("g"), 6, 5);
        check.comes("six PARAMETERS", def("h", "i((a i)(b i)(c i)(d i)(e i)(f i))(- a(- b(- c(- d(- e f)))))"), 1 - 2 + 3 - 4 + 5 - 6, 1, 2, 3, 4, 5, 6);
        check.comes("all six passed", def("k", "i((a b))(h 6 5 4 3 2 a)"), 6 - 5 + 4 - 3 + 2 - 1, 1);
        check.comes("none", def("m", "i()7"), 7);
        check.comes("none passed", def("n", "i((a o))(m)"), 7, -1);
        check.faultAt(7, "(def x1 j()@(h 1 2 3 4 5 6l))");
        check.faultAt(7, "(def x2 j()@(h(null e)2 3 4 5 6))");
        check.comes("V as a PARAMETER's kind", def("p", "j((r xi))(f(set r 0 1)(set r 0 2))"), 1, check.row(15, 1));
        check.faultAt(6, "(def x3 j()(@nope 1))");
        check.faultAt(6, "(def x4 j((a i))(@a 1))");
    }

    private static void keywords() {
        check.sentence("(A NAME behind a ( that is one of those told is that.");
        String[] told = {"if", "let", "do", "loop", "try", "as", "force", "null", "row", "size", "get", "set", "is", "same", "throw", "code"};
        for (String name : told) {
            check.sound("(def " + name + " i((a i))a)");
            check.comes(name + " may name a DEFINITION", check.named(name), 7, 7);
        }
        String[] wrong = {"(if 1 @)", "(let @1)", "(do 1 @)", "(loop @1)", "(try 1 @)", "(as @1)", "(force @1)", "(null @1)", "(row @1)", "(get 1 @)",
            "(set 1 @)", "(is @1)", "(same 1 @)", "(throw @1)"};
        for (int i = 0; i < wrong.length; i++) {
            check.faultAt(4, "(def x" + i + " i()" + wrong[i] + ")");
        }
        check.faultAt(7, "(def y1 i()@(size 1))");
        check.faultAt(7, "(def y2 i()@(code 1))");
        check.comes("but a variable", def("z", "i((if i))(+ if(let(do 5)do))"), 12, 7);
        check.comes("a KIND's name is a NAME as others", def("i", "i((i i))i"), 3, 3);
    }

    private static void justTheParts() {
        check.sentence("All have just the parts told, else 4; of a DEFINITION's any number is read.)");
        String[] more = {"(+ 1 1 @1)", "(if(= 1 1)1 1 @1)", "(do 1 1 @1)", "(as i 1 @1)", "(force i 1 @1)", "(null o @1)", "(row xi 1 @1)",
            "(size(row xi 1)@1)", "(get(row xi 1)0 @1)", "(set(row xi 1)0 0 @1)", "(is o 1 @1)", "(same 1 1 @1)", "(throw i(null e)@1)", "(code(null e)@1)"};
        String[] fewer = {"(+ 1@)", "(if(= 1 1)1@)", "(do 1@)", "(as i@)", "(force i@)", "(null@)", "(row xi@)", "(size@)", "(get(row xi 1)@)",
            "(set(row xi 1)0@)", "(is o@)", "(same 1@)", "(throw i@)", "(code@)"};
        for (int i = 0; i < more.length; i++) {
            check.again();
            check.faultAt(4, "(def f i()" + more[i] + ")");
            check.faultAt(4, "(def g i()" + fewer[i] + ")");
        }
        HandleHouse house = check.again();
        check.sound("(def f i((a i))a)");
        check.faultAt(9, "(def g i()@(f 1 2 3 4 5 6 7 8 9 10 11 12 13 14 15 16 17 18 19 20))");
        check.due("all twenty were made", house.told(7), 3 + 2 + 20);
        check.faultAt(9, "(def h i()@(f))");
    }

    private static void emptyVariables() {
        check.sentence("In let, loop an A of V is 7 as soon as it was read (at the ( of the let, loop).");
        check.faultAt(7, "(def a i((r xi))@(let(b(set r 0 1))?");
        check.faultAt(7, "(def b i((r xi))@(let(b(set r 0 1)?");
        check.faultAt(7, "(def c i((r xi))(+ 1 @(loop((b(set r 0 1)?");
        check.faultAt(7, "(def d i((r xi))@(loop((a 1)(b(set r 0 1)");
        check.faultAt(7, "(def e i((r xi))@(loop((a 1)(b 1)(c(set r 0 1)1)");
        check.faultAt(4, "(def f i((r xi))(let(b(set r 0 1@");
        check.faultAt(7, "(def g i((r xi))(let(b@(set r 0 1l)");
    }

    private static void feeding() {
        HandleHouse house = check.sentence("Twenty bytes wait, those of a first, the highest of each first.");
        house.feed(0x28646566, 0x20662069, 0x28292031, 0x32333435, 0x36373829);
        check.due("all", house.end(20), 20);
        check.due("read", house.read(), 0);
        check.comes("(def f i() 12345678)", check.named("f"), 12345678);
        house.feed(0x20202020, 0x20202020, 0x20202020, 0x20202020, 0x202020ff);
        check.due("19", house.end(19), 19);
        check.due("the last byte isn't among them", house.read(), 0);
        house.feed(0x20202020, 0x20202020, 0x20202020, 0x20202020, 0x202020ff);
        house.end(20);
        check.due("the last byte", house.read(), 1);
        check.due("its place", house.fault(1), 19);
        house.feed(-1, 0, 0, 0, 0);
        house.feed(0x20000000, 0, 0, 0, 0);
        house.end(1);
        check.due("the latest wait", house.read(), 0);
        house.feed(0x80000000, 0, 0, 0, 0);
        house.end(1);
        check.due("a byte of 128", house.read(), 1);
    }

    private static void feedZeros() {
        HandleHouse house = check.sentence("(They are 0 at first, and behind each end() that is not refused.)");
        check.due("at first", house.end(1), 1);
        check.due("a byte 0", house.read(), 1);
        house.feed(0x20202020, 0x20202020, 0x20202020, 0x20202020, 0x20202020);
        check.due("refused", house.end(21), -1);
        check.due("refused", house.end(-1), -1);
        check.due("they wait still", house.end(2), 2);
        check.due("0 behind it", house.end(1), 3);
        check.due("read", house.read(), 1);
        check.due("its place", house.fault(1), 2);
        house.feed(0x20202020, 0, 0, 0, 0);
        check.due("also behind end(0)", house.end(0), 0);
        house.end(1);
        check.due("a byte 0", house.read(), 1);
        check.due("its place", house.fault(1), 0);
        for (int i = 0; i < 150; i++) {
            house.end(20);
        }
        house.feed(0x20202020, 0, 0, 0, 0);
        check.due("refused, as the TEXT is full", house.end(1), -1);
        house.read();
        house.end(1);
        check.due("they waited still", house.read(), 0);
    }

    private static void ending() {
        HandleHouse house = check.sentence("The first n of the bytes that wait come behind the TEXT: how many it has.");
        check.due("none", house.end(0), 0);
        house.feed(0x28646566, 0x29292929, 0x29292929, 0x29292929, 0x29292929);
        check.due("four", house.end(4), 4);
        house.feed(0x20662069, 0x28293729, 0x3f3f3f3f, 0x3f3f3f3f, 0x3f3f3f3f);
        check.due("eight behind them", house.end(8), 12);
        check.due("none more", house.end(0), 12);
        check.due("read", house.read(), 0);
        check.comes("(def f i()7)", check.named("f"), 7);
        check.due("the TEXT is empty", house.end(0), 0);
    }

    private static void endRefused() {
        HandleHouse house = check.sentence("NONE, refused, when n isn't 0 .. 20, or there would be more than 3000.");
        for (int n : new int[] {Integer.MIN_VALUE, -1, 21, Integer.MAX_VALUE}) {
            check.due("end(" + n + ")", house.end(n), -1);
        }
        check.due("nothing came", house.end(0), 0);
        check.due("20", house.end(20), 20);
        for (int i = 2; i <= 149; i++) {
            check.due("20 more", house.end(20), 20 * i);
        }
        check.due("2999", house.end(19), 2999);
        check.due("two more", house.end(2), -1);
        check.due("twenty more", house.end(20), -1);
        check.due("none more", house.end(0), 2999);
        check.due("the 3000th", house.end(1), 3000);
        check.due("one more", house.end(1), -1);
        check.due("none more", house.end(0), 3000);
    }

    private static void reading() {
        HandleHouse house = check.sentence("The TEXT, which is empty then, is read and made: 0, or the FAULT.");
        check.due("an empty one", house.read(), 0);
        check.due("0", check.read("(def f i()1)"), 0);
        check.due("it is empty then", house.read(), 0);
        check.due("one DEFINITION", house.fault(2), 1);
        check.due("the FAULT", check.read("(def g i()?"), 1);
        check.due("also behind a FAULT", house.end(0), 0);
        check.due("so", house.read(), 0);
        check.due("made is what is ahead of the FAULT", check.read("(def h i()8)(def k i()9"), 4);
        check.comes("h", check.named("h"), 8);
        check.comes("k isn't aimed anew", check.named("k"), 0);
    }

    private static void faultQuestions() {
        HandleHouse house = check.sentence("Of the latest read() the FAULT, 0 without one, or before (what 0), its place, NONE without one (1); how many DEFINITIONS there"
            + " are (2). NONE for another what.");
        check.due("before", house.fault(0), 0);
        check.due("no place before", house.fault(1), -1);
        check.due("no DEFINITIONS", house.fault(2), 0);
        check.read("?");
        check.due("the FAULT", house.fault(0), 1);
        check.due("the place 0", house.fault(1), 0);
        check.feed("(def f i()1)");
        check.due("of the latest read(), not of what waits", house.fault(0), 1);
        house.read();
        check.due("without one", house.fault(0), 0);
        check.due("no place", house.fault(1), -1);
        check.due("one DEFINITION", house.fault(2), 1);
        check.read("(def g i()");
        check.due("the TEXT's end", house.fault(1), 10);
        check.due("two DEFINITIONS", house.fault(2), 2);
        for (int what : new int[] {Integer.MIN_VALUE, -1, 3, Integer.MAX_VALUE}) {
            check.due("fault(" + what + ")", house.fault(what), -1);
        }
    }

    private static void named() {
        HandleHouse house = check.sentence("The HANDLE of the DEFINITION whose NAME's characters are the bytes of letters, the highest first, zeros left out; NONE when there is none.");
        check.due("none", house.named(0x66), -1);
        check.due("nothing", house.named(0), -1);
        check.sound("(def abcdefgh i()1)(def zz i()2)(def z i()3)");
        int zz = check.named("zz");
        check.due("all eight", house.handle(house.named(0x6162636465666768L), 2), 0);
        check.due("another order", house.named(0x6861626364656667L), -1);
        check.due("seven of eight", house.named(0x61626364656667L), -1);
        check.due("two", house.handle(zz, 2), 1);
        check.due("zeros ahead", house.named(0x7a7aL), zz);
        check.due("zeros behind", house.named(0x7a7a000000000000L), zz);
        check.due("zeros between", house.named(0x7a0000000000007aL), zz);
        check.due("one", house.handle(house.named(0x7a00000000L), 2), 2);
        check.due("three", house.named(0x7a7a7aL), -1);
        check.due("nothing", house.named(0), -1);
        check.due("the least", house.named(Long.MIN_VALUE), -1);
        check.due("-1", house.named(-1), -1);
    }
}
