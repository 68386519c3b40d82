/** Promises 24 to 28: a text is fed, read and made; its faults and its definitions. */
public final class TextTest {
    private static final Check check = new Check("TextTest");

    public static void main(String[] args) {
        feeding();
        ending();
        reading();
        names();
        shapes();
        words();
        numbers();
        kinds();
        operations();
        choices();
        scopes();
        loops();
        throwing();
        rows();
        questions();
        calls();
        wordFaults();
        syntaxFaults();
        nameFaults();
        kindFaults();
        faultOrder();
        nesting();
        definitionRoom();
        handleRoom();
        typeRoom();
        check.end();
    }

    private static void feeding() {
        HandleHouse house = check.fresh("promise 24");
        house.feed(0x28646566, 0x20662069, 0x20282920, 0x37290000, 0);
        check.due("14 bytes", house.end(14), 14);
        check.due("read", house.read(), 0);
        check.comes("f", check.named("f"), 7);
        check.due("the bytes are 0 then", house.end(1), 1);
        check.due("so there is no WORD", house.read(), 1);
        house.feed(0x28646566, 0, 0, 0, 0);
        house.feed(0x20202020, 0x20202020, 0x20202020, 0x20202020, 0x20202020);
        check.due("the latest counts", house.end(20), 20);
        check.due("blanks alone", house.read(), 0);
        house.feed(0x80202020, 0, 0, 0, 0);
        check.due("a byte above 127", house.end(1), 1);
        check.due("no WORD begins so", house.read(), 1);
    }

    private static void ending() {
        HandleHouse house = check.fresh("promise 25");
        check.due("-1", house.end(-1), -1);
        check.due("21", house.end(21), -1);
        check.due("0", house.end(0), 0);
        house.feed(0x28282828, 0x28282828, 0x28282828, 0x28282828, 0x28282828);
        check.due("a refused one", house.end(21), -1);
        check.due("leaves the bytes", house.end(3), 3);
        check.due("read", house.read(), 4);
        check.due("place", house.fault(1), 1);
        for (int i = 1; i <= 150; i++) {
            check.due("bytes", house.end(20), 20 * i);
        }
        check.due("no byte more", house.end(1), -1);
        check.due("but none", house.end(0), 3000);
        check.due("read: bytes 0", house.read(), 1);
        check.due("the text is empty then", house.end(5), 5);
        house.read();
        for (int i = 0; i < 149; i++) {
            house.end(20);
        }
        check.due("2999 bytes", house.end(19), 2999);
        check.due("two more", house.end(2), -1);
        check.due("one more", house.end(1), 3000);
    }

    private static void reading() {
        HandleHouse house = check.fresh("promise 26");
        check.due("no text", house.read(), 0);
        check.sound("(def one i () 1)");
        check.due("it is taken", house.read(), 0);
        check.due("one definition", house.fault(2), 1);
        check.sound("(def two i () 2)\n (def three i () (+ (one) (two)))");
        check.due("three definitions", house.fault(2), 3);
        check.comes("three", check.named("three"), 3);
        check.fresh("promise 27");
        house = check.house;
        check.faulty("(def x i () 1", 4, 13);
        check.due("the definition is there", house.fault(2), 1);
        check.due("what 3", house.fault(3), -1);
        check.due("what -1", house.fault(-1), -1);
        check.comes("its target is not aimed anew", check.named("x"), 0);
        check.sound("(def y i () (x))");
        check.due("no fault now", house.fault(0), 0);
        check.due("no place", house.fault(1), -1);
    }

    private static void names() {
        HandleHouse house = check.fresh("promise 28");
        check.sound("(def abcdefgh i () 1)(def z9 i () 2)");
        int first = check.named("abcdefgh");
        int second = check.named("z9");
        check.due("eight characters", house.handle(first, 1), 29);
        check.due("two", house.handle(second, 1), 29);
        check.due("zeros left out", house.named(0x7a00003900000000L), second);
        check.due("zeros between", house.named(0x7a00000000000039L), second);
        check.due("another order", house.named(0x397aL), -1);
        check.due("a part", check.named("abcdefg"), -1);
        check.due("none", house.named(0), -1);
        check.due("edge", house.named(-1), -1);
    }

    /** What is made for a text, one by one. */
    private static void shapes() {
        HandleHouse house = check.fresh("promise 26");
        check.sound("(def f i ((a i) (b j)) 7)");
        int[][] due = {{34, 0, 0, 0}, {29, 0, 0, 0}, {0, 5, 0, 0}, {4, 0, 0, 1}};
        for (int h = 0; h < due.length; h++) {
            check.due("form of " + h, house.handle(h, 1), due[h][0]);
            check.due("a of " + h, house.handle(h, 2), due[h][1]);
            check.due("b of " + h, house.handle(h, 3), due[h][2]);
            check.due("parts of " + h, house.handle(h, 4), due[h][3]);
        }
        check.due("no more handles", house.told(7), 4);
        check.due("two types", house.told(6), 2);
        check.sound("(def g j ((a i) (b j)) (+ a b))");
        // EMPTY, TARGET; SELF, MOVE of a; SELF, MOVE of b; AS of a; OPERATION, DROP, FOLD, FOLD
        int[] forms = {34, 29, 2, 5, 2, 5, 12, 3, 4, 8, 8};
        for (int i = 0; i < forms.length; i++) {
            check.due("form " + i + " of g", house.handle(4 + i, 1), forms[i]);
        }
        check.due("so many", house.told(7), 4 + forms.length);
        check.due("DROP at 2", house.handle(12, 2), 2);
        check.due("FOLD at 1", house.handle(13, 2), 1);
        check.due("by b", house.handle(13, 6), 9);
        check.due("FOLD at 0", house.handle(14, 2), 0);
        check.due("by a", house.handle(14, 6), 10);
        check.comes("g", check.named("g"), 12, 5, 7);
        check.sound("(def s i ((a i)) a)");
        check.due("a variable alone is SELF: EMPTY and TARGET are new", house.told(7), 17);
    }

    private static void words() {
        check.fresh("promise 26");
        check.sound("(def f i()(+ 1-2))");
        check.comes("1-2 are two NUMBERS", check.named("f"), -1);
        check.sound("(def g i()(- 1 -2))");
        check.comes("- and -2", check.named("g"), 3);
        check.sound("(def h i()(--1 2))");
        check.comes("--1", check.named("h"), -3);
        check.sound("(def k j()(+ 1l2))");
        check.comes("1l2 are two", check.named("k"), 3);
        check.sound("\n( def m i ( ( a1 i )\n) a1 )\n");
        check.comes("blanks", check.named("m"), 8, 8);
        check.sound("(def if i((as i))(+ as as))");
        check.comes("keywords may be names", check.named("if"), 8, 4);
        check.faulty("(def w i() 1\t)", 1, 12);
    }

    private static void numbers() {
        check.fresh("promise 26");
        check.sound("(def a i() 2147483647)(def b i() -2147483648)(def c j() 9223372036854775807l)");
        check.sound("(def d j() -9223372036854775808l)(def e1 i() 007)(def g i() -0)");
        check.comes("a", check.named("a"), Integer.MAX_VALUE);
        check.comes("b", check.named("b"), Integer.MIN_VALUE);
        check.comes("c", check.named("c"), Long.MAX_VALUE);
        check.comes("d", check.named("d"), Long.MIN_VALUE);
        check.comes("e1", check.named("e1"), 7);
        check.comes("g", check.named("g"), 0);
        check.faulty("(def x i() 2147483648)", 3, 11);
        check.faulty("(def y i() -2147483649)", 3, 11);
        check.faulty("(def z j() 9223372036854775808l)", 3, 11);
        check.faulty("(def w j() -9223372036854775809l)", 3, 11);
        check.faulty("(def v j() 99999999999999999999999999)", 3, 11);
        check.faulty("2147483648", 3, 0);
    }

    private static void kinds() {
        HandleHouse house = check.fresh("promise 26");
        house.newClass(7, 0);
        house.newClass(19, 0);
        String[] names = {"v", "z", "b", "s", "c", "i", "j", "o", "n", "oz", "ob", "os", "oc", "oi", "oj",
            "xi", "xj", "xo", "h", "e", "k0", "k1"};
        for (int kind = 0; kind < names.length; kind++) {
            String place = kind == 0 ? "" : "(p " + names[kind] + ")";
            String text = "(def f" + kind + " " + names[kind] + " (" + place + ") ?";
            check.faulty(text, 1, text.length() - 1);
            int h = check.named("f" + kind);
            if (kind == 0) {
                check.hasType("f0", h, 0);
            } else {
                check.hasType("f" + kind, h, kind, kind);
            }
        }
        check.faulty("(def x k2", 6, 7);
        check.faulty("(def x k12", 6, 7);
        check.faulty("(def x k00", 6, 7);
        check.faulty("(def x xz", 6, 7);
        check.faulty("(def x i ((a v)", 6, 13);
        check.faulty("(def x 5", 4, 7);
    }

    private static void operations() {
        check.fresh("promise 26");
        String[] signs = {"+", "-", "*", "/", "%", "&", "|", "^", "<", "="};
        long[] due = {19, 13, 48, 5, 1, 0, 19, 19, 0, 0};
        for (int i = 0; i < signs.length; i++) {
            check.sound("(def f" + i + " o ((a i) (b b)) (" + signs[i] + " a b))");
            check.comes(signs[i], check.named("f" + i), due[i], 16, 3);
        }
        check.sound("(def w j ((a oj)) (+ a 1))(def u i ((a oi)) (+ a 1))(def o1 i ((a o)) (+ a 1))");
        check.hasType("of OJ", check.named("w"), 6, 14);
        int box = check.kept(check.make(12, 0, check.type(14, 6), 0, check.make(2, 6, 0, 0)), 1L << 40);
        check.comes("as J", check.named("w"), (1L << 40) + 1, box);
        check.fails("O as I", check.named("o1"), 2, box);
        check.fails("NULL as I", check.named("u"), 1, -1);
        check.faulty("(def x1 i ((a e)) (+ a 1))", 7, 18);
        check.faulty("(def x2 i ((a j)) (+ a 1))", 7, 0);
        check.sound("(def x3 i ((a xi)) (+ (set a 0 1) 1))");
        int row = check.kept(check.make(20, 15, 0, 0), 1);
        check.comes("V as I", check.named("x3"), 1, row);
    }

    private static void choices() {
        HandleHouse house = check.fresh("promise 26");
        check.sound("(def abs i ((a i)) (if (< a 0) (- 0 a) a))");
        check.comes("abs", check.named("abs"), 5, -5);
        check.comes("abs", check.named("abs"), 6, 6);
        check.sound("(def f o ((a z)) (if a 1 2l))");
        check.comes("C as B's kind isn't, B as C's is", check.named("f"), 1, 1);
        check.due("so a box of J", house.told(3), 14);
        check.sound("(def g o ((a z)) (if a 1l 2))");
        check.comes("C as B's kind", check.named("g"), 2, 0);
        check.due("a box of J", house.told(3), 14);
        check.sound("(def h1 o ((a z) (b n)) (if a b 2))");
        check.comes("C as a box", check.named("h1"), 2, 0, -1);
        check.due("a box of I", house.told(3), 13);
        check.faulty("(def x1 i ((a i)) (if a 1 2))", 7, 18);
        check.faulty("(def x2 v ((a z)) (if a 1 (null e)))", 7, 18);
        check.faulty("(def x3 v ((a z) (b xi)) (if a 1 (set b 0 0)))", 7, 25);
        check.sound("(def y v ((a z) (b xi)) (if a (set b 0 1) (set b 0 2)))");
        check.sound("(def fac i ((n i)) (if (< n 2) 1 (* n (fac (- n 1)))))");
        check.comes("fac", check.named("fac"), 3628800, 10);
    }

    private static void scopes() {
        check.fresh("promise 26");
        check.sound("(def f i ((a i)) (let (b (+ a 1)) (* a b)))");
        check.comes("let", check.named("f"), 12, 3);
        check.sound("(def g i ((a i)) (let (a (+ a 1)) (let (a (* a a)) (- a 1))))");
        check.comes("the first one with the name", check.named("g"), 15, 3);
        check.sound("(def h i ((a i)) (+ (let (b 5) b) (let (b 6) (+ a b))))");
        check.comes("the scope ends", check.named("h"), 14, 3);
        check.faulty("(def x i ((a i)) (+ (let (b 5) b) b))", 6, 34);
        check.faulty("(def y i ((a i)) (let (b b) b))", 6, 25);
        check.faulty("(def z i ((a xi)) (let (b (set a 0 1)) ?", 7, 18);
        check.sound("(def k i ((a xi)) (do (set a 0 5) (do 7 (get a 0))))");
        int row = check.kept(check.make(20, 15, 0, 0), 1);
        check.comes("do", check.named("k"), 5, row);
        check.faulty("(def q i () (let (a 1) (let (b 1) (let (c 1) (let (d 1) (let (e 1) (let (f 1) (let (g 1)"
            + " (let (h 1) (let (i 1) (let (j 1) (let (k 1) 2))))))))))))", 8, 133);
    }

    private static void loops() {
        HandleHouse house = check.fresh("promise 26");
        check.sound("(def sum j ((n i)) (loop ((i 0) (s 0l)) ((+ i 1) (+ s i)) (< i n) s))");
        check.comes("sum", check.named("sum"), 15, 5);
        check.sound("(def pow i ((n i)) (loop ((a 0) (b 1) (k 0)) (b (+ a b) (+ k 1)) (< k n) a))");
        check.comes("each B has the variables that changed ahead of it", check.named("pow"), 32, 6);
        int loop = house.told(7) - 1;
        check.due("the loop", house.handle(loop, 1), 18);
        check.due("its parts", house.handle(loop, 4), 16);
        check.due("no TEST of a variable", house.handle(loop, 7), -1);
        check.due("no INIT behind them", house.handle(loop, 17), -1);
        check.faulty("(def x i () (loop () (1) 1 1))", 4, 19);
        check.faulty("(def y i () (loop ((a 1) (b 1) (c 1) (d 1)) (1) 1 1))", 4, 37);
        check.faulty("(def z i () (loop ((a 1)) () (= 1 1) 1))", 4, 27);
        check.faulty("(def w i () (loop ((a 1)) (1 1) (= 1 1) 1))", 4, 29);
        check.faulty("(def q i () (loop ((a 1)) (1l) (= 1 1) 1))", 7, 12);
        check.faulty("(def r i () (loop ((a 1)) (1) 1 1))", 7, 12);
        check.faulty("(def s i ((x xi)) (loop ((a 1) (b (set x 0 1)) ?", 7, 18);
        check.sound("(def t j () (loop ((a 1l)) ((+ 1 1)) (= 1 2) a))");
        check.comes("B as A's kind", check.named("t"), 2);
        check.sound("(def v j ((n i)) (let (k 5) (loop ((s 0l) (i 0)) ((+ s i) (+ i 1)) (< i n) (+ s k))))");
        check.comes("D of another kind than the last B, within another scope", check.named("v"), 11, 4);
        check.sound("(def y1 j ((n i)) (loop ((i 0) (s 0l)) ((+ i 1) i) (< i n) s))");
        check.comes("the second B as its A's kind", check.named("y1"), 4, 4);
        check.sound("(def u i () (loop ((a 1) (a 2)) ((+ a 10) (+ a 20)) (= 1 2) a))");
        check.comes("two with one name: the first", check.named("u"), 11);
    }

    private static void throwing() {
        HandleHouse house = check.fresh("promise 26");
        house.newClass(19, 0);
        check.sound("(def f i ((a i)) (try (/ 100 a) (x) (+ 1000 (code x))))");
        check.comes("nothing thrown", check.named("f"), 20, 5);
        check.comes("caught", check.named("f"), 1003, 0);
        check.sound("(def g i ((a e)) (throw i a))");
        check.fails("throw of NULL", check.named("g"), 1, -1);
        check.sound("(def h v ((a k0)) (throw v a))");
        check.hasType("throw v", check.named("h"), 0, 20);
        check.faulty("(def x1 i ((a o)) (throw i a))", 7, 18);
        check.faulty("(def x2 i () (throw i 5))", 7, 13);
        check.sound("(def k j ((a i)) (try (/ 100l a) (a) (code a)))");
        check.comes("B as A's kind; the name hides the other", check.named("k"), 3, 0);
        check.faulty("(def x3 j ((a i)) (try a (b) 5l))", 7, 18);
        check.faulty("(def x4 i ((a i)) (code a))", 7, 18);
        check.sound("(def m i ((a o)) (code a))");
        int row = check.kept(check.make(20, 15, 0, 0), 1);
        check.fails("O as E", check.named("m"), 2, row);
    }

    private static void rows() {
        check.fresh("promise 26");
        check.sound("(def f i ((n i)) (let (r (row xi n)) (do (set r 1 7) (+ (size r) (get r 1)))))");
        check.comes("rows", check.named("f"), 10, 3);
        check.fails("no such element", check.named("f"), 6, 1);
        check.sound("(def g o ((n i)) (let (r (row xo n)) (do (set r 0 n) (get r 0))))");
        check.comes("an element of O", check.named("g"), 3, 3);
        check.due("its box", check.house.told(3), 13);
        check.sound("(def h j ((r xj) (b b)) (do (set r b b) (get r b)))");
        int row = check.kept(check.make(20, 16, 0, 0), 9);
        check.comes("B as I and as J", check.named("h"), 5, row, 5);
        check.faulty("(def x1 i ((a o)) (size a))", 7, 18);
        check.faulty("(def x2 i ((a i)) (get a 0))", 7, 18);
        check.faulty("(def x3 i ((a xi)) (get a 0l))", 7, 19);
        check.faulty("(def x4 v ((a xi)) (set a 0 5l))", 7, 19);
        check.faulty("(def x5 i () (row i 5))", 7, 13);
        check.faulty("(def x6 i () (row xi 5l))", 7, 13);
        check.faulty("(def x7 i () (null i))", 7, 13);
        check.sound("(def k xi () (null xi))(def m xo () (null xi))");
        check.comes("null", check.named("k"), 0);
        check.due("of its kind", check.house.told(2), 15);
    }

    private static void questions() {
        check.fresh("promise 26");
        check.sound("(def f z ((a i)) (is oi a))(def g z ((a i)) (is oj a))(def h z ((a i) (b j)) (same a b))");
        check.comes("is oi", check.named("f"), 1, 5);
        check.comes("is oj", check.named("g"), 0, 5);
        check.comes("same", check.named("h"), 0, 5, 5);
        check.sound("(def k z ((a i) (b i)) (same a b))");
        check.comes("boxes of one number", check.named("k"), 1, 5, 5);
        check.faulty("(def x1 z ((a o)) (is i a))", 7, 18);
        check.sound("(def m b ((a i)) (force b a))(def n1 i ((a o)) (force i a))(def p j ((a i)) (as j a))");
        check.comes("force", check.named("m"), -1, 255);
        check.comes("force of NULL", check.named("n1"), 0, -1);
        check.comes("as", check.named("p"), 5, 5);
        check.faulty("(def x2 b ((a i)) (as b a))", 7, 18);
        check.faulty("(def x3 i ((a e)) (force i a))", 7, 18);
        check.faulty("(def x4 v ((a i)) (as v a))", 6, 22);
        check.sound("(def q o ((a xi)) (force o (set a 0 1)))");
        int row = check.kept(check.make(20, 15, 0, 0), 1);
        check.comes("V forced: the ZERO", check.named("q"), 0, row);
        check.sound("(def r v ((a i)) a)");
        check.comes("A passed as V", check.named("r"), 0, 5);
        check.due("of V", check.house.told(2), 0);
    }

    private static void calls() {
        check.fresh("promise 26");
        check.sound("(def f j ((a i) (b j)) (- a b))");
        check.sound("(def g j ((c b)) (f c c))");
        check.comes("parts are passed", check.named("g"), 0, 5);
        check.sound("(def h j () (f (as b (force b 9)) 2))");
        check.comes("h", check.named("h"), 7);
        check.faulty("(def x1 j () (f 1))", 9, 13);
        check.faulty("(def x2 j () (f 1 2 3))", 9, 13);
        check.faulty("(def x3 j () (f 1 2 3 4 5 6 7 8))", 9, 13);
        check.faulty("(def x4 j () (f 1l 2))", 7, 13);
        check.faulty("(def x5 j () (f 1l))", 9, 13);
        check.sound("(def even i ((n i)) (if (= n 0) 1 (- 1 (even (- n 1)))))");
        check.comes("of itself", check.named("even"), 1, 4);
        check.sound("(def p i ((a i) (b i) (c i) (d i) (e i) (f i)) (+ a (+ b (+ c (+ d (+ e f))))))");
        check.sound("(def q i () (p 1 2 3 4 5 6))");
        check.comes("six parameters", check.named("q"), 21);
        check.sound("(def def i () 3)(def r i () (+ (def) 1))");
        check.comes("def may be a definition's name", check.named("r"), 4);
    }

    private static void wordFaults() {
        check.fresh("promise 27");
        check.faulty("?", 1, 0);
        check.faulty("  A", 1, 2);
        check.faulty("(def f i () _", 1, 12);
        check.faulty("(def abcdefghi", 2, 5);
        check.faulty("abcdefghi", 2, 0);
        check.faulty("(def a12345678 i () 1)", 2, 5);
        check.faulty("(def g i () abcdefghijklmnop)", 2, 12);
        check.faulty("(def h i () 12345678901)", 3, 12);
        check.faulty("(def k i () 1 12345678901", 3, 14);
    }

    private static void syntaxFaults() {
        check.fresh("promise 27");
        String[] texts = {"def", ")", "5", "+", "(", "((", "()", "(5", "(foo", "(def", "(def (", "(def 5", "(def a1",
            "(def a1 (", "(def a1 i", "(def a1 i 5", "(def a1 i (", "(def a1 i (5", "(def a1 i (a", "(def a1 i (()",
            "(def a1 i ((a)", "(def a1 i ((a i", "(def a1 i ((a i i"};
        int[] places = {0, 0, 0, 0, 1, 1, 1, 1, 1, 4, 5, 5, 7, 8, 9, 10, 11, 11, 11, 12, 13, 15, 16};
        for (int i = 0; i < texts.length; i++) {
            check.faulty(texts[i], 4, places[i]);
        }
        check.due("no definition", check.house.fault(2), 0);
        check.faulty("(def a1 i ()", 4, 12);
        check.due("now there is one", check.house.fault(2), 1);
        String[] bodies = {")", "+", "(", "(5", "((", "(+", "(+ 1", "(+ 1)", "(+ 1 2 3", "(let a", "(let (5", "(let (a)",
            "(let (a 1 2", "(let (a 1))", "(do 1)", "(if (= 1 1) 1)", "(try 1 a", "(try 1 (5", "(try 1 (a 1",
            "(null 5", "(null o 5", "(row 5", "(size)", "(code 1 2", "(throw 5", "(loop 5", "(loop ((a 1)) 5",
            "(loop ((a 1)) (a) 1)"};
        int[] at = {0, 0, 1, 1, 1, 2, 4, 4, 7, 5, 6, 7, 10, 10, 5, 13, 7, 8, 10, 6, 8, 5, 5, 8, 7, 6, 14, 19};
        for (int i = 0; i < bodies.length; i++) {
            check.faulty("(def b" + i / 10 + i % 10 + " i () " + bodies[i], 4, 14 + at[i]);
        }
        check.faulty("(def c1 i () 1) )", 4, 16);
        check.faulty("(def c2 i () 1 2)", 4, 15);
    }

    private static void nameFaults() {
        check.fresh("promise 27");
        check.sound("(def f i () 1)");
        check.faulty("(def f i () 1)", 6, 5);
        check.faulty("(def g i ((a i) (b i) (a i)) 1)", 6, 23);
        check.faulty("(def g i ((a i) (b i) (c i) (d i) (e i) (f i) (g i)) 1)", 6, 47);
        check.faulty("(def g i ((a i) (b i) (c i) (d i) (e i) (f i) (5", 4, 47);
        check.faulty("(def g w () 1)", 6, 7);
        check.faulty("(def g i ((a w)) 1)", 6, 13);
        check.due("no definition more", check.house.fault(2), 1);
        check.faulty("(def g i ((g i)) (g g h))", 6, 22);
        check.faulty("(def h i () (nope 1))", 6, 13);
        check.faulty("(def k i () nope)", 6, 12);
        check.faulty("(def m i () f)", 6, 12);
        check.faulty("(def n i () (as nope 1))", 6, 16);
        check.faulty("(def p i () (throw nope 1))", 6, 19);
        check.faulty("(def q i () (q 1 (def 5)))", 6, 18);
    }

    private static void kindFaults() {
        check.fresh("promise 27");
        check.faulty("(def f z () (+ 1 2))", 7, 0);
        check.faulty(" (def g b () 5)", 7, 1);
        check.due("they are there", check.house.fault(2), 2);
        check.comes("with the ZERO", check.named("g"), 0);
        check.faulty("(def h i () (+ 1 (+ 2 (null e))))", 7, 17);
        check.faulty("(def k i ((a i)) (+ (if a 1 2) (nope)))", 7, 20);
        check.faulty("(def m i ((a e)) (+ a a) ?", 7, 17);
    }

    private static void faultOrder() {
        check.fresh("promise 27");
        check.faulty("(def f i () (size 5 (", 4, 20);
        check.faulty("(def g i () (get 5 (null e)))", 7, 12);
        check.faulty("(def h i () (h 1 2l) ?", 9, 12);
        check.sound("(def k i ((a i)) a)");
        check.faulty("(def m i () (k (null e) (+ 1 1) ?", 1, 32);
        check.faulty("(def n i () (k (null e)))", 7, 12);
        check.faulty("(def p i () (k (null e) (null e)))", 9, 12);
    }

    private static String repeated(String text, int n) {
        StringBuilder all = new StringBuilder();
        for (int i = 0; i < n; i++) {
            all.append(text);
        }
        return all.toString();
    }

    private static void nesting() {
        check.fresh("promise 27");
        check.sound("(def f i () " + repeated("(+ 1 ", 19) + "1" + repeated(")", 19) + ")");
        check.comes("20 open", check.named("f"), 20);
        check.faulty("(def g i () " + repeated("(+ 1 ", 20) + "1" + repeated(")", 20) + ")", 5, 12 + 19 * 5);
        check.faulty("(def h i () " + repeated("(+ 1 ", 19) + "(", 5, 12 + 19 * 5);
        check.faulty("(def k i () " + repeated("(+ 1 ", 19) + "1 (", 4, 12 + 19 * 5 + 2);
        check.faulty("(def m i () " + repeated("(+ 1 ", 18) + "(let (", 5, 12 + 18 * 5 + 5);
        check.faulty("(def n i () " + repeated("(+ 1 ", 18) + "((", 4, 12 + 18 * 5 + 1);
        check.sound("(def p i () " + repeated("(+ (+ 1 1) ", 18) + "1" + repeated(")", 18) + ")");
        check.comes("closed ones don't count", check.named("p"), 37);
    }

    private static void definitionRoom() {
        HandleHouse house = check.fresh("promise 27");
        for (int i = 0; i < 60; i++) {
            check.sound("(def d" + i + " i () 1)");
        }
        check.due("60 definitions", house.fault(2), 60);
        check.faulty("(def more i () 1)", 6, 5);
        check.due("no more", house.fault(2), 60);
        check.faulty("(def 5", 4, 5);
        check.due("the last one", house.handle(check.named("d59"), 2), 59);
        house = check.fresh("promise 27");
        int one = check.constant(5, 1);
        for (int i = 0; i < 79; i++) {
            house.target(one);
        }
        check.sound("(def f i () 1)");
        int handles = house.told(7);
        check.faulty(" (def g j () 1)", 8, 1);
        check.due("no definition without its target", house.fault(2), 1);
        check.due("what was made stays", house.told(7), handles + 1);
        check.due("none with the name", check.named("g"), -1);
    }

    private static void handleRoom() {
        HandleHouse house = check.fresh("promise 27");
        for (int i = 0; i < 496; i++) {
            check.constant(6, i);
        }
        check.faulty("(def f i ((a i)) (+ a 1))", 8, 22);
        check.due("500 handles", house.told(7), 500);
        check.due("its definition stays", house.handle(check.named("f"), 1), 29);
        check.faulty("(def g i ((a i)) a)", 8, 0);
        check.due("not there", check.named("g"), -1);
        house = check.fresh("promise 27");
        for (int i = 0; i < 497; i++) {
            check.constant(6, i);
        }
        check.faulty("(def f j ((a i)) a)", 8, 0);
        check.due("500 handles", house.told(7), 500);
        check.due("passed at the end: it is there", check.named("f") >= 0, true);
        house = check.fresh("promise 27");
        for (int i = 0; i < 498; i++) {
            check.constant(6, i);
        }
        check.faulty("(def f i ((a i)) a)", 8, 17);
        check.faulty("(def g i () 1)", 8, 0);
    }

    private static void typeRoom() {
        HandleHouse house = check.fresh("promise 27");
        check.fillTypes(300);
        check.faulty("(def f i () (+ 1 2))", 8, 12);
        check.due("300 types", house.told(6), 300);
        check.faulty("(def g j ((a j)) 1)", 8, 0);
        check.faulty("(def h i () (let (a 1) 1))", 8, 23);
        check.sound("(def k i () 1)");
        check.comes("what is known can be made", check.named("k"), 1);
    }
}
