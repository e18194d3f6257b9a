/** WHAT MAY BE: instances, contexts, objects, what places and fields hold, what is thrown, natives, what is excluded: sentence by sentence. */
public final class MayBeTest {
    public static void main(String[] args) {
        sitesOfObjects();
        contextsOfObjects();
        numbersOfObjects();
        placesGoOn();
        goesOnAlone();
        mainBegins();
        whatLetsBegin();
        interfacesBegin();
        allLocalsToACatch();
        whatDoesNotLetBegin();
        fieldsAndElements();
        lambdasHave();
        selectedByEach();
        lambdasAreCalled();
        specialCalls();
        contextsByReceiver();
        contextsWithoutReceiver();
        givenAndLocals();
        thrownByTheMachine();
        thrownByNatives();
        letGo();
        firstCatch();
        named();
        newInstance();
        find();
        invoke();
        invokeLambdas();
        startAndHook();
        uncaughtTakesWhatIsLetGo();
        noneSelected();
        excluded();
        excludedAlone();
        degraded();
        notComeTo();
        classOfLock();
        Judged.end();
    }

    private static ThreadJudge of(int policy, String text) {
        ThreadJudge x = Judged.loaded(text);
        x.analyse(policy, 300);
        return x;
    }

    /** The sites of a row of objects, each with a blank behind it. */
    private static String sites(ThreadJudge x, int[] objects) {
        StringBuilder all = new StringBuilder();
        for (int o : objects) {
            all.append(x.object(o, 0)).append(' ');
        }
        return all.toString();
    }

    private static int[] held(ThreadJudge x, int i, int place) {
        int[] all = new int[Math.max(0, x.holds(i, place, -1))];
        for (int k = 0; k < all.length; k++) {
            all[k] = x.holds(i, place, k);
        }
        return all;
    }

    private static int[] inField(ThreadJudge x, int o, int f) {
        int[] all = new int[Math.max(0, x.field(o, f, -1))];
        for (int k = 0; k < all.length; k++) {
            all[k] = x.field(o, f, k);
        }
        return all;
    }

    private static String at(ThreadJudge x, int i, int place) {
        return sites(x, held(x, i, place));
    }

    private static void same(String what, String got, String want) {
        Judged.yes(what + ": " + got + ", due is " + want, got.equals(want));
    }

    /** The number of an object with a site and a context; BAD without. */
    private static int object(ThreadJudge x, int site, int context) {
        for (int o = 0; o < x.count(9); o++) {
            if (x.object(o, 0) == site && x.object(o, 1) == context) {
                return o;
            }
        }
        return -1;
    }

    /** "SITES are: an instruction 42, 43, 52, its number; 2,000 and a STRING's number; 3,000 and a class's (the CLASS); 4,000 and a method's (the METHOD); 5,000 and the number of a class below Throwable (what the machine throws); 6,000 and a class's" and what an object IS of */
    private static void sitesOfObjects() {
        String text = Judged.main("class K { method void m() { return; } } interface F { abstract method void f(); }",
            "new K; pop; push 1; array K; pop; push 1; array int; pop; lambda F void Main.main(); pop; string \"x\"; pop; string \"K\"; call Class Class.named(String); store 1; load 1; virtual Object Class.newInstance(); pop; load 1; string \"m\"; virtual Method Class.find(String); pop; push 1; push 0; div; pop; new Cast; pop; return;");
        // main stands from 15 on
        int[][] due = {{15, 19}, {18, -22}, {21, -2}, {23, 20}, {41, 9}, {2000, 2}, {2001, 2}, {2002, 2}, {3019, 3}, {4017, 4}, {5006, 6}, {5007, 7}, {5011, 11}, {5014, 14}, {5015, 15}, {6019, 19}};
        for (int policy = 0; policy < 4; policy++) {
            ThreadJudge x = of(policy, text);
            Judged.due("objects", x.count(9), due.length);
            for (int o = 0; o < due.length; o++) {
                Judged.due("site of " + o, x.object(o, 0), due[o][0]);
                Judged.due("context of " + o, x.object(o, 1), -1);
                Judged.due("class of " + o, x.object(o, 2), due[o][1]);
            }
            Judged.due("no more", x.object(due.length, 0), -1);
        }
    }

    /** "OBJECTS of sites below 2,000 and from 6,000 on have by policies 2 and 3 the context of the instance that makes them; all other contexts of objects are NONE." */
    private static void contextsOfObjects() {
        String text = "class K { method void m() { new K; pop; push 1; array int; pop; lambda Runnable void Main.main(); pop; string \"K\"; call Class Class.named(String); dup; virtual Object Class.newInstance(); pop; string \"m\"; virtual Method Class.find(String); pop; push 1; push 0; div; pop; return; } } "
            + Judged.main("", "new K; virtual void K.m(); return;");
        for (int policy = 0; policy < 4; policy++) {
            ThreadJudge x = of(policy, text);
            int main = x.method(18, 3);
            Judged.due("receivers: " + policy, x.reached(17, 0), 1);
            int context = policy == 2 ? main : policy == 3 ? 20 : -1;
            int[] made = {14, 17, 19, 6019};
            for (int site : made) {
                Judged.yes("made by m, policy " + policy + ": " + site, object(x, site, context) >= 0);
            }
            Judged.yes("main's", object(x, main, -1) >= 0);
            for (int site : new int[] {2000, 2001, 3019, 4017, 5006, 5007, 5011, 5014, 5015}) {
                Judged.yes("of NONE: " + site, object(x, site, -1) >= 0);
            }
            Judged.due("all", x.count(9), 14);
        }
    }

    /** "are numbered by site, then context" */
    private static void numbersOfObjects() {
        String text = "class K { method void m() { new Object; pop; return; } static method void s() { new K; pop; return; } } "
            + Judged.main("", "new K; virtual void K.m(); new K; virtual void K.m(); call void K.s(); string \"a\"; pop; return;");
        ThreadJudge x = of(2, text);
        // m 14..16, s 17..19, main 20: sites K 20, K 22
        int[][] due = {{14, 20}, {14, 22}, {17, -1}, {20, -1}, {22, -1}, {2000, -1}, {5006, -1}};
        Judged.due("objects", x.count(9), due.length);
        for (int o = 0; o < due.length; o++) {
            Judged.due("site of " + o, x.object(o, 0), due[o][0]);
            Judged.due("context of " + o, x.object(o, 1), due[o][1]);
        }
    }

    /** "They go on as kinds do (0, 6 to 16, 46, 48 leave int: nothing): copies are copies." */
    private static void placesGoOn() {
        ThreadJudge x = of(0, Judged.main("", "string \"a\"; string \"b\"; under; swap; pop; dup; store 1; pop; pop; push 1; string \"c\"; is Object; load 1; store 2; push 2; array int; length; pop; pop; pop; return;"));
        int m = 14;
        same("a", at(x, m + 1, 10), "2000 ");
        same("b", at(x, m + 2, 11), "2001 ");
        same("under 0", at(x, m + 3, 10), "2001 ");
        same("under 1", at(x, m + 3, 11), "2000 ");
        same("under 2", at(x, m + 3, 12), "2001 ");
        same("swap 1", at(x, m + 4, 11), "2001 ");
        same("swap 2", at(x, m + 4, 12), "2000 ");
        same("pop", at(x, m + 5, 11), "2001 ");
        same("dup", at(x, m + 6, 12), "2001 ");
        same("store", at(x, m + 7, 1), "2001 ");
        same("before store nothing", at(x, m + 6, 1), "");
        same("push", at(x, m + 10, 10), "");
        same("is", at(x, m + 12, 11), "");
        same("load", at(x, m + 13, 12), "2001 ");
        same("store 2", at(x, m + 14, 2), "2001 ");
        same("length", at(x, m + 17, 12), "");
        Judged.due("no place above the stack", x.holds(m + 1, 11, -1), -1);
        // both ways come together; a local that is set anew holds that alone
        x = of(0, Judged.main("", "new Object; store 1; push 1; ifeq L; string \"a\"; store 1; L: load 1; pop; string \"b\"; store 1; load 1; pop; return;"));
        same("both", at(x, m + 6, 1), "14 2000 ");
        same("both on the stack", at(x, m + 7, 10), "14 2000 ");
        same("that alone", at(x, m + 10, 1), "2001 ");
        // a catch has the locals as they are before each instruction within
        x = of(0, Judged.main("", "null; store 1; A: string \"a\"; store 1; string \"b\"; store 1; B: return; H: pop; return; catch Throwable A B H;"));
        same("at the handler", at(x, m + 7, 1), "2000 ");
    }

    /** "An object that is taken where a class or array is wanted goes on alone if it is below that (47; a receiver; what 45 puts, by the array's elements)." */
    private static void goesOnAlone() {
        String two = "push 1; ifeq L; new K; store 1; goto M; L: new Sub; store 1; M: ";
        String classes = "interface I { } class K { field Object o; method void m() { return; } } class Sub extends K implements I { method void m() { return; } } ";
        ThreadJudge x = of(0, Judged.main(classes, two + "load 1; cast Sub; pop; load 1; cast I; pop; load 1; cast K; pop; load 1; cast Object; pop; push 1; array K; cast Object; dup; cast K[]; pop; dup; cast Object[]; pop; dup; cast Sub[]; pop; dup; cast int[]; pop; cast Object; pop; null; cast K; return;"));
        // main from 16: new K 18, new Sub 21; load 23
        int m = 16;
        same("cast Sub", at(x, m + 9, 10), "21 ");
        same("cast I", at(x, m + 12, 10), "21 ");
        same("cast K", at(x, m + 15, 10), "18 21 ");
        same("cast Object", at(x, m + 18, 10), "18 21 ");
        same("K[] to K[]", at(x, m + 24, 11), "36 ");
        same("to Object[]", at(x, m + 27, 11), "36 ");
        same("to Sub[]", at(x, m + 30, 11), "");
        same("to int[]", at(x, m + 33, 11), "");
        same("to Object", at(x, m + 35, 10), "36 ");
        same("null", at(x, m + 38, 10), "");
        // what 45 puts
        x = of(0, Judged.main(classes, two + "push 1; array Sub; cast K[]; push 0; load 1; setelement; push 1; array K; push 0; load 1; setelement; return;"));
        int subs = object(x, 24, -1);
        int ks = object(x, 30, -1);
        same("in Sub[]", sites(x, inField(x, subs, -1)), "21 ");
        same("in K[]", sites(x, inField(x, ks, -1)), "18 21 ");
    }

    /** "MAIN with context NONE is an instance, and its class BEGINS (by no instruction). If a class begins, what it extends does, and its <clinit> with NONE is an instance, if it has one." */
    private static void mainBegins() {
        for (int policy = 0; policy < 4; policy++) {
            ThreadJudge x = of(policy, "interface I { static method void <clinit>() { return; } } class A { static method void <clinit>() { new A; pop; return; } } class B extends A { } class Main extends B implements I { static method void <clinit>() { return; } static method void main() { return; } } class C { static method void <clinit>() { return; } }");
            // I.<clinit> 17, A.<clinit> 18, Main.<clinit> 19, main 20, C.<clinit> 21
            int[] begin = {1, 0, 0, 0, 0, 0, 0, 0, 0, 0, 0, 0, 0, 0, 0, 0, 0, 0, 0, 0, 1, 1, 1, 0};
            for (int c = 0; c < begin.length; c++) {
                Judged.due("begins " + c, x.begins(c), begin[c]);
            }
            Judged.due("no class", x.begins(24), -1);
            int[] reached = {0, 1, 1, 1, 0};
            for (int k = 0; k < 5; k++) {
                Judged.due("instances of " + (17 + k), x.reached(17 + k, 0), reached[k]);
            }
            Judged.due("by no instruction", x.calls(19, false, -1), 0);
            Judged.yes("clinit's object is of NONE", object(x, 15, -1) >= 0);
        }
    }

    private static final String LETS = "class S { static method void <clinit>() { return; } } class K extends S { static field int f; static method void <clinit>() { return; } static method void s() { return; } method void m() { return; } } class L extends K { static method void <clinit>() { return; } } ";

    /** "In an instance: 42 lets its class begin, 40, 41 that which has the field, 51 that which has the method." */
    private static void whatLetsBegin() {
        // <clinit>s: S 17, K 18, s 19, m 20, L 21; classes S 19, K 20, L 21
        String[] lines = {"new K; pop;", "new L; pop;", "getstatic K.f; pop;", "getstatic L.f; pop;", "push 1; putstatic K.f;", "push 1; putstatic L.f;", "call void K.s();", "call void L.s();"};
        int[] which = {2, 3, 2, 2, 2, 2, 2, 2};
        for (int k = 0; k < lines.length; k++) {
            for (int policy = 0; policy < 4; policy += 3) {
                ThreadJudge x = of(policy, Judged.main(LETS, lines[k] + " return;"));
                Judged.due("S by " + lines[k], x.begins(19), 1);
                Judged.due("K by " + lines[k], x.begins(20), 1);
                Judged.due("L by " + lines[k], x.begins(21), which[k] > 2 ? 1 : 0);
                int i = 19 + (lines[k].startsWith("push") ? 1 : 0);
                boolean call = lines[k].startsWith("call");
                Judged.due("calls of " + lines[k], x.calls(i, false, -1), which[k] + (call ? 1 : 0));
                Judged.due("first", x.calls(i, false, 0), 17);
                Judged.due("second", x.calls(i, false, 1), 18);
                Judged.due("last", x.calls(i, false, 2), call ? 19 : which[k] > 2 ? 21 : -1);
                Judged.due("starts none", x.calls(i, true, -1), 0);
            }
        }
    }

    /** "If a class begins, what it extends does, and its <clinit> with NONE is an instance, if it has one." also of an interface; what is above it behind its 'implements' does not begin */
    private static void interfacesBegin() {
        String i = "interface I implements J { static field int f; static method void s() { return; } static method void <clinit>() { new Object; putstatic Main.o; return; } } interface J { static method void <clinit>() { return; } } class A implements I { static method void t() { return; } } ";
        String[] lines = {"getstatic I.f; pop;", "push 1; putstatic I.f;", "call void I.s();", "string \"I\"; call Class Class.named(String); pop;"};
        for (String line : lines) {
            for (int policy = 0; policy < 4; policy++) {
                ThreadJudge x = of(policy, i + "class Main { static field Object o; static method void main() { " + line + " return; } }");
                Judged.due("I by " + line, x.begins(19), 1);
                Judged.due("not J", x.begins(20), 0);
                Judged.due("I's <clinit>", x.reached(18, 0), 1);
                Judged.due("not J's", x.reached(19, 0), 0);
                Judged.due("Object is made there", object(x, 15, -1) >= 0 ? 1 : 0, 1);
                Judged.due("nothing is open", x.count(15), 0);
                x.begin();
                x.run(100, 1);
                Judged.due("classes that began", x.count(23), 3 + (line.startsWith("string") ? 1 : 0));
                Judged.yes("foreseen", x.foreseen());
            }
        }
        ThreadJudge x = of(0, Judged.main(i, "new A; pop; call void A.t(); return;").replace("class Main {", "class Main { static field Object o;"));
        Judged.due("what a class implements does not begin", x.begins(19) + x.begins(20), 0);
        Judged.due("no <clinit>", x.reached(18, 0) + x.reached(19, 0), 0);
    }

    /** A catch has each of the ten locals as it is before each instruction within. */
    private static void allLocalsToACatch() {
        StringBuilder lines = new StringBuilder();
        for (int k = 0; k < 10; k++) {
            lines.append("new Object; store ").append(k).append("; ");
        }
        ThreadJudge x = of(0, Judged.main("", lines + "A: null; throw; B: H: pop; return; catch Throwable A B H;"));
        for (int k = 0; k < 10; k++) {
            same("local " + k, at(x, 36, k), (14 + 2 * k) + " ");
        }
        same("what is thrown", at(x, 36, 10), "5006 ");
        x.begin();
        x.run(22, 0);
        for (int k = 0; k < 10; k++) {
            Judged.due("thing in local " + k, x.local(0, k), k);
        }
        Judged.due("at the catch", x.state(0, 2), 36);
        Judged.yes("foreseen", x.foreseen());
    }

    /** What is not named there lets no class begin: 38, 39, 43, 47 to 50, 52, and what is never come to. */
    private static void whatDoesNotLetBegin() {
        String k = LETS.replace("static field int f;", "field int f;");
        for (String lines : new String[] {"null; get K.f; pop;", "null; push 1; put K.f;", "push 1; array K; pop;", "null; cast K; is K; pop;", "null; virtual void K.m();", "null; special void K.<init>();", "lambda Runnable void K.s(); pop;", "push 1; ifeq E; E:"}) {
            ThreadJudge x = of(0, Judged.main(k, lines + " return; new K; call void K.s();"));
            Judged.due("begins by " + lines, x.begins(20), 0);
            Judged.due("nor S", x.begins(19), 0);
            Judged.due("no instance", x.reached(18, 0), 0);
        }
        // a lambda that is called lets none begin either
        ThreadJudge x = of(0, Judged.main(k, "lambda Runnable void K.s(); virtual void Runnable.run(); return;"));
        Judged.due("a lambda's m is called", x.reached(19, 0), 1);
        Judged.due("its class does not begin", x.begins(20), 0);
        // what natives' own classes are begin by 51
        x = of(0, Judged.main("", "push 1; call void Out.print(int); return;"));
        Judged.due("Out", x.begins(17), 1);
        Judged.due("Runtime", x.begins(18), 0);
    }

    /** "38 leaves what the objects of the receiver hold in the field, 39 adds to it; 40, 41 likewise what the field holds; 44 what elements of arrays hold (each array object has one set for all its elements), 45 adds." */
    private static void fieldsAndElements() {
        String k = "class K { field Object o; field Object p; static field Object s; static field Object t; } class L extends K { field Object o; } ";
        ThreadJudge x = of(0, Judged.main(k, "new K; store 1; new K; store 2; load 1; string \"a\"; put K.o; load 2; string \"b\"; put K.o; load 1; string \"c\"; put K.p; string \"d\"; putstatic K.s; string \"e\"; putstatic K.t; "
            + "load 1; get K.o; pop; load 2; get K.o; pop; load 2; get K.p; pop; getstatic K.s; pop; getstatic L.t; pop; new L; store 3; load 3; string \"f\"; put L.o; load 3; get K.o; pop; load 3; get L.o; pop; return;"));
        int m = 14;
        same("o of the first", at(x, m + 19, 10), "2000 ");
        same("o of the second", at(x, m + 22, 10), "2001 ");
        same("p of the second", at(x, m + 25, 10), "");
        same("s", at(x, m + 27, 10), "2003 ");
        same("t", at(x, m + 29, 10), "2004 ");
        same("K's o of L", at(x, m + 37, 10), "");
        same("L's o of L", at(x, m + 40, 10), "2005 ");
        // fields: target 0, o 1, p 2, s 3, t 4, L.o 5
        same("field o", sites(x, inField(x, 0, 1)), "2000 ");
        same("field p", sites(x, inField(x, 0, 2)), "2002 ");
        same("static s of any", sites(x, inField(x, -7, 3)), "2003 ");
        same("static s of any", sites(x, inField(x, 999, 3)), "2003 ");
        Judged.due("no such object", x.field(99, 1, -1), -1);
        // one set for all elements; of numbers none
        x = of(0, Judged.main("", "push 2; array Object; store 1; load 1; push 0; string \"a\"; setelement; load 1; push 1; string \"b\"; setelement; load 1; push 0; element; pop; push 1; array int; store 2; load 2; push 0; push 7; setelement; push 2; array Object; push 0; element; pop; return;"));
        same("all its elements", at(x, m + 14, 10), "2000 2001 ");
        int last = x.count(6) - 2;
        same("another array's", at(x, last, 10), "");
        // what is written later, by a way back or elsewhere, is read too
        x = of(0, Judged.main(k, "L: getstatic K.s; pop; call void Main.w(); goto L;").replace("class Main {", "class Main { static method void w() { string \"z\"; putstatic K.s; return; }"));
        same("written behind", at(x, x.count(6) - 3, 10), "2000 ");
    }

    /** "a LAMBDA HAS the sets taken from the stack, one by one" */
    private static void lambdasHave() {
        String f = "interface F { abstract method void f(Object); } class K { static method void k(Object, int, Object, Object, Object) { return; } static method void six(Object, Object, Object, Object, Object, Object) { return; } } ";
        ThreadJudge x = of(0, Judged.main(f, "string \"a\"; push 1; string \"b\"; push 1; ifeq L; string \"c\"; goto M; L: string \"d\"; M: lambda F void K.k(Object, int, Object, Object, Object); string \"x\"; virtual void F.f(Object); return;"));
        int o = 0;
        String[] has = {"2000 ", "", "2001 ", "2002 2003 ", "", ""};
        for (int k = 0; k < 6; k++) {
            same("has " + k, sites(x, inField(x, o, -2 - k)), has[k]);
            Judged.due("how many", x.field(o, -2 - k, -1), has[k].length() / 5);
            same("comes to m " + k, at(x, 14, k), k == 4 ? "2004 " : has[k]);
        }
        Judged.due("no - 8", x.field(o, -8, -1), -1);
        x = of(0, Judged.main("interface F { abstract method void f(); } " + f.substring(f.indexOf("class")), "string \"a\"; string \"b\"; string \"c\"; string \"d\"; string \"e\"; string \"f\"; lambda F void K.six(Object, Object, Object, Object, Object, Object); virtual void F.f(); return;"));
        for (int k = 0; k < 6; k++) {
            same("has " + k, sites(x, inField(x, 0, -2 - k)), (2000 + k) + " ");
            same("comes to m " + k, at(x, 15, k), (2000 + k) + " ");
        }
    }

    /** "49: for each object of the receiver that is below the named class what is SELECTED from what it is" */
    private static void selectedByEach() {
        String k = "abstract class A { abstract method void m(); } class B extends A { method void m() { return; } } class C extends B { } class D extends C { method void m() { return; } } class N extends A { } ";
        // A.m 17, B.m 18 (14), D.m 19 (15), main 20 from 16
        ThreadJudge x = of(0, Judged.main(k, "push 1; ifeq L; new C; goto M; L: new D; M: virtual void A.m(); return;"));
        int call = x.count(6) - 2;
        Judged.due("two", x.calls(call, false, -1), 2);
        Judged.due("B's for a C", x.calls(call, false, 0), 18);
        Judged.due("D's for a D", x.calls(call, false, 1), 19);
        same("receiver of B's", at(x, 14, 0), "18 ");
        same("receiver of D's", at(x, 15, 0), "20 ");
        x = of(0, Judged.main(k, "new N; virtual void A.m(); return;"));
        Judged.due("none", x.calls(x.count(6) - 2, false, -1), 0);
        Judged.yes("NoMethod is thrown", object(x, 5015, -1) >= 0);
        x = of(0, Judged.main(k, "null; virtual void A.m(); return;"));
        Judged.due("of null none", x.calls(x.count(6) - 2, false, -1), 0);
        Judged.yes("nor NoMethod", object(x, 5015, -1) < 0);
        // an array has what Object has
        x = of(0, Judged.main(k, "push 1; array A; virtual void Object.notify(); return;"));
        Judged.yes("notify's Monitor", object(x, 5012, -1) >= 0);
    }

    /** "of a LAMBDA, if that would be the abstract one that it was made for: a call of its method m, with what it HAS and then the values" */
    private static void lambdasAreCalled() {
        String f = "interface G { abstract method Object f(Object); } interface F implements G { method Object d(Object) { string \"d\"; give; } } class K { static method Object k(Object, Object) { load 0; give; } } ";
        // G.f 17, d 18 (14, 15), k 19 (16, 17), main 20 from 18
        ThreadJudge x = of(0, Judged.main(f, "string \"h\"; lambda F Object K.k(Object, Object); store 1; load 1; string \"v\"; virtual Object G.f(Object); pop; load 1; string \"w\"; virtual Object F.d(Object); pop; load 1; virtual void Object.notify(); return;"));
        same("has", at(x, 16, 0), "2001 ");
        same("value", at(x, 16, 1), "2002 ");
        same("gives", at(x, 24, 10), "2001 ");
        Judged.due("calls k", x.calls(23, false, 0), 19);
        Judged.due("calls d", x.calls(27, false, 0), 18);
        Judged.due("just that", x.calls(27, false, -1), 1);
        same("receiver of d", at(x, 14, 0), "19 ");
        same("given by d", at(x, 28, 10), "2000 ");
        Judged.due("notify is native", x.calls(30, false, -1), 0);
    }

    /** "50: for each likewise the method that was found." */
    private static void specialCalls() {
        String k = "class A { method void m() { return; } } class B extends A { method void m() { load 0; special void A.m(); return; } } class C extends B { method void m() { return; } method void n() { load 0; special void B.m(); return; } } ";
        // A.m 17 (14), B.m 18 (15..17), C.m 19 (18), n 20 (19..21), main 21 from 22
        ThreadJudge x = of(0, Judged.main(k, "new C; virtual void C.n(); return;"));
        Judged.due("B's m", x.calls(20, false, 0), 18);
        Judged.due("A's m", x.calls(16, false, 0), 17);
        Judged.due("C's m is not called", x.reached(19, 0), 0);
        same("receiver", at(x, 14, 0), "22 ");
        x = of(0, Judged.main(k, "null; special void A.<init>(); return;"));
        Judged.due("of null none", x.calls(x.count(6) - 2, false, -1), 0);
    }

    /** "by 2 the receiver's site; by 3 the class in whose method that site stands (of sites from 2,000 on: the class that the object is of)" */
    private static void contextsByReceiver() {
        String k = "class K { method void m() { new Object; pop; return; } static method Object mk() { new K; give; } } class Sub extends K { } interface F { abstract method void f(); method void d() { new Object; pop; return; } } ";
        // m 17 (14..16), mk 18 (17, 18), f 19, d 20 (19..21), main 21 from 22; K 19, Sub 20, F 21, Main 22
        String lines = "new K; virtual void K.m(); call Object K.mk(); cast K; virtual void K.m(); string \"Sub\"; call Class Class.named(String); virtual Object Class.newInstance(); cast K; virtual void K.m(); lambda F void Main.main(); virtual void F.d(); return;";
        ThreadJudge x = of(2, Judged.main(k, lines));
        Judged.due("m by sites", x.reached(17, 0), 3);
        Judged.yes("of main's", object(x, 14, 22) >= 0);
        Judged.yes("of mk's", object(x, 14, 17) >= 0);
        Judged.yes("of newInstance's", object(x, 14, 6020) >= 0);
        Judged.yes("of the lambda's", object(x, 19, 32) >= 0);
        x = of(3, Judged.main(k, lines));
        Judged.due("m by classes", x.reached(17, 0), 3);
        Judged.yes("main's stands in Main", object(x, 14, 22) >= 0);
        Judged.yes("mk's stands in K", object(x, 14, 19) >= 0);
        Judged.yes("newInstance's is of Sub", object(x, 14, 20) >= 0);
        Judged.yes("the lambda stands in Main", object(x, 19, 22) >= 0);
        x = of(1, Judged.main(k, lines));
        Judged.due("m by instructions", x.reached(17, 0), 3);
        Judged.due("one object of its 42", object(x, 14, -1) >= 0 && object(x, 14, 23) < 0 ? 1 : 0, 1);
        x = of(0, Judged.main(k, lines));
        Judged.due("m by nothing", x.reached(17, 0), 1);
        // <init> of Object with receivers of all sorts
        String all = "string \"a\"; special void Object.<init>(); string \"b\"; special void Object.<init>(); string \"K\"; call Class Class.named(String); dup; special void Object.<init>(); string \"m\"; virtual Method Class.find(String); special void Object.<init>(); "
            + "push 1; array int; special void Object.<init>(); push 1; array K; special void Object.<init>(); A: push 1; push 0; div; pop; B: return; H: special void Object.<init>(); return; catch Arithmetic A B H;";
        int[] due = {1, 7, 7, 5};
        for (int policy = 0; policy < 4; policy++) {
            x = of(policy, Judged.main(k, all));
            // by sites: two strings, CLASS, METHOD, two arrays, Arithmetic; by classes: String, Class, Method, Main (arrays), Arithmetic
            Judged.due("<init> by " + policy, x.reached(0, 0), due[policy]);
        }
    }

    /** "by 2 and 3 without a receiver (51, a LAMBDA's m) that of the calling instance" */
    private static void contextsWithoutReceiver() {
        String k = "interface F { abstract method void f(); } class K { method void m() { call void K.s(); lambda F void K.l(); virtual void F.f(); return; } static method void s() { new Object; pop; return; } static method void l() { new Object; pop; return; } } ";
        // f 17, m 18 (14..17), s 19 (18..20), l 20 (21..23), main 21 from 24
        String lines = "new K; virtual void K.m(); new K; virtual void K.m(); call void K.s(); return;";
        ThreadJudge x = of(2, Judged.main(k, lines));
        int[][] due = {{18, -1}, {18, 24}, {18, 26}, {21, 24}, {21, 26}};
        for (int[] one : due) {
            Judged.yes("made by " + one[0] + " in " + one[1], object(x, one[0], one[1]) >= 0);
        }
        Judged.due("s", x.reached(19, 0), 3);
        Judged.due("l", x.reached(20, 0), 2);
        x = of(3, Judged.main(k, lines));
        Judged.due("s by classes", x.reached(19, 0), 2);
        Judged.due("l by classes", x.reached(20, 0), 1);
        Judged.yes("in Main", object(x, 18, 21) >= 0 && object(x, 18, -1) >= 0 && object(x, 21, 21) >= 0);
        x = of(1, Judged.main(k, lines));
        Judged.due("s by instructions", x.reached(19, 0), 2);
        Judged.due("l by instructions", x.reached(20, 0), 1);
    }

    /** "Its locals at its beginning hold that receiver and the values; what it GIVES (all 57 of it) comes on the stack, if that is a reference" */
    private static void givenAndLocals() {
        String k = "class K { method Object m(Object, int, Object) { load 2; ifeq L; load 1; give; L: load 3; give; } static method int n(Object) { push 1; give; } static method void v(Object) { return; } } ";
        ThreadJudge x = of(0, Judged.main(k, "new K; string \"a\"; push 1; string \"b\"; virtual Object K.m(Object, int, Object); pop; string \"c\"; call int K.n(Object); pop; string \"d\"; call void K.v(Object); return;"));
        same("receiver", at(x, 14, 0), "23 ");
        same("first value", at(x, 14, 1), "2000 ");
        same("number", at(x, 14, 2), "");
        same("last value", at(x, 14, 3), "2001 ");
        same("no more", at(x, 14, 4), "");
        same("all that it gives", at(x, 28, 10), "2000 2001 ");
        same("a number", at(x, 31, 10), "");
        // calls of one instance add to its locals
        x = of(0, Judged.main(k, "string \"a\"; call int K.n(Object); pop; string \"b\"; call int K.n(Object); pop; return;"));
        same("both values", at(x, 20, 0), "2000 2001 ");
        x = of(1, Judged.main(k, "string \"a\"; call int K.n(Object); pop; string \"b\"; call int K.n(Object); pop; return;"));
        Judged.due("apart by 1", x.reached(18, 0), 2);
        same("all instances together", at(x, 20, 0), "2000 2001 ");
        // each call takes its own values, whatever stood on the stack for the one before
        String six = "class K { static method void six(Object, Object, Object, Object, Object, Object) { return; } static method void one(Object) { return; } static method void two(Object, Object) { return; } static method Object given(Object, Object) { load 1; give; } } ";
        x = of(0, Judged.main(six, "string \"a\"; string \"b\"; string \"c\"; string \"d\"; string \"e\"; string \"f\"; call void K.six(Object, Object, Object, Object, Object, Object); string \"g\"; call void K.one(Object); string \"h\"; string \"i\"; call void K.two(Object, Object); string \"j\"; string \"k\"; call Object K.given(Object, Object); pop; return;"));
        for (int p = 0; p < 6; p++) {
            same("of six, " + p, at(x, 14, p), 2000 + p + " ");
        }
        same("of one", at(x, 15, 0), "2006 ");
        same("of two", at(x, 16, 0) + at(x, 16, 1), "2007 2008 ");
        same("given", at(x, x.count(6) - 2, 10), "2010 ");
        same("the rest has none", at(x, 16, 2) + at(x, 15, 1), "");
    }

    /** The classes of what the machine may throw at these lines, as they come to a catch of Throwable. */
    private static void throwsOf(String lines, int... classes) {
        String k = "class K { field int n; static field int s; method void m() { return; } static method void t() { return; } } abstract class Ab { abstract method void v(); } class Co extends Ab { } ";
        ThreadJudge x = of(0, Judged.main(k, "A: " + lines + " B: return; H: return; catch Throwable A B H;"));
        StringBuilder due = new StringBuilder();
        for (int c : classes) {
            due.append(5000 + c).append(' ');
        }
        same("thrown by " + lines, at(x, x.count(6) - 1, 10), due.toString());
    }

    /** "and by the machine: NullPointer by 38, 39, 44 to 46, 49, 50, 53 to 55; Arithmetic by 9, 10; Index by 44, 45; Store by 45; Cast by 47; Size by 43; Monitor by 54; NoMethod by 49, if from some object none is selected" */
    private static void thrownByTheMachine() {
        for (String none : new String[] {"push 1; pop;", "string \"a\"; pop;", "null; pop;", "push 1; store 1; inc 1 1; load 1; pop;", "push 1; push 1; add; push 1; sub; push 1; mul; neg; push 1; and; push 1; or; push 1; xor; push 1; shl; push 1; shr; pop;",
            "push 1; dup; under; swap; pop; pop; pop;", "push 1; ifeq B;", "push 1; push 1; cmplt B;", "null; null; same B;", "null; ifnull B;", "getstatic K.s; putstatic K.s;", "new K; pop;", "null; is K; pop;", "call void K.t();", "lambda Runnable void K.t(); pop;", "push 1; call void Out.print(int);"}) {
            throwsOf(none);
        }
        throwsOf("null; get K.n; pop;", 6);
        throwsOf("new K; push 1; put K.n;", 6);
        throwsOf("push 1; array int; push 0; element; pop;", 6, 8, 11);
        throwsOf("null; push 0; element; pop;", 6, 8);
        throwsOf("null; push 0; push 1; setelement;", 6, 8, 10);
        throwsOf("null; length; pop;", 6);
        throwsOf("new K; virtual void K.m();", 6);
        throwsOf("new K; special void K.<init>();", 6);
        throwsOf("push 1; push 1; div; pop;", 7);
        throwsOf("push 1; push 1; rem; pop;", 7);
        throwsOf("new K; cast Object; pop;", 9);
        throwsOf("push 1; array int; pop;", 11);
        throwsOf("null; throw;", 6);
        throwsOf("new Co; virtual void Ab.v();", 6, 15);
        ThreadJudge x = of(0, Judged.main("class C { static method void m() { null; enter; null; exit; return; } }", "A: call void C.m(); B: return; H: return; catch Throwable A B H;"));
        same("53 and 54", at(x, x.count(6) - 1, 10), "5006 5012 ");
        x = of(0, Judged.main("class C { static method void m() { null; enter; null; throw; } }", "A: call void C.m(); B: return; H: return; catch Throwable A B H;"));
        same("53", at(x, x.count(6) - 1, 10), "5006 ");
        x = of(0, Judged.main("", "A: new Cast; throw; B: null; pop; return; H: return; catch Throwable A B H;"));
        same("what 55 takes", at(x, x.count(6) - 1, 10), "14 5006 ");
        x = of(0, Judged.main("", "string \"a\"; enter; null; A: exit; B: return; H: null; exit; return; catch Throwable A B H;"));
        same("54 alone", at(x, 19, 10), "5006 5012 ");
    }

    /** "wait, notify, notifyAll throw Monitor. named: .. NoClass and NullPointer are thrown in any case." .. "NoClass is thrown" .. "NoMethod and NullPointer are thrown" .. "Cast and NullPointer are thrown" .. "start throws State; hook NullPointer" */
    private static void thrownByNatives() {
        throwsOf("new K; virtual void Object.wait();", 6, 12);
        throwsOf("new K; virtual void Object.notify();", 6, 12);
        throwsOf("new K; virtual void Object.notifyAll();", 6, 12);
        throwsOf("null; virtual void Object.wait();", 6);
        throwsOf("string \"K\"; call Class Class.named(String); pop;", 6, 14);
        throwsOf("null; call Class Class.named(String); pop;", 6, 14);
        throwsOf("new Class; virtual Object Class.newInstance(); pop;", 6, 14);
        throwsOf("null; virtual Object Class.newInstance(); pop;", 6);
        throwsOf("new Class; null; virtual Method Class.find(String); pop;", 6, 15);
        throwsOf("null; null; virtual Method Class.find(String); pop;", 6);
        throwsOf("new Method; null; virtual Object Method.invoke(Object); pop;", 6, 9);
        throwsOf("null; null; virtual Object Method.invoke(Object); pop;", 6);
        throwsOf("new Thread; virtual void Thread.start();", 6, 13);
        throwsOf("null; virtual void Thread.start();", 6);
        throwsOf("new Thread; virtual void Thread.join();", 6);
        throwsOf("new Thread; call void Runtime.hook(Thread);", 6);
        throwsOf("null; call void Runtime.hook(Thread);", 6);
        throwsOf("push 1; call void Out.print(int);");
    }

    /** "what is let go by what it calls, and by each <clinit> of the class that it lets begin, and of those that this extends" .. "otherwise the instance lets it go" */
    private static void letGo() {
        String e = "class E extends Throwable { } class S { static method void <clinit>() { new E; throw; } } class K extends S { static field int n; static method void <clinit>() { new Cast; throw; } static method void s() { new Index; throw; } static method void t() { call void K.s(); return; } } ";
        // S.<clinit> 17 (14, 15), K.<clinit> 18 (16, 17), s 19 (18, 19), t 20 (20, 21)
        String[] lines = {"new K; pop;", "getstatic K.n; pop;", "push 1; putstatic K.n;", "call void K.s();", "call void K.t();"};
        String[] due = {"14 16 5006 ", "14 16 5006 ", "14 16 5006 ", "14 16 18 5006 ", "14 16 18 5006 "};
        for (int k = 0; k < lines.length; k++) {
            ThreadJudge x = of(0, Judged.main(e, "A: " + lines[k] + " B: return; H: return; catch Throwable A B H;"));
            same("let go to " + lines[k], at(x, x.count(6) - 1, 10), due[k]);
        }
        // what is caught is not let go
        ThreadJudge x = of(0, Judged.main("class K { static method void s() { A: new Index; throw; B: pop; return; H: pop; return; catch Index A B H; } } ".replace("B: pop;", "B: null;").replace("null; return;", "null; pop; return;"), "A: call void K.s(); B: return; H: return; catch Throwable A B H;"));
        same("caught there", at(x, x.count(6) - 1, 10), "5006 ");
        // a callee of several callers lets go to all; a run's does not come to start
        x = of(0, Judged.main("class T extends Thread { method void run() { new Index; throw; } } ", "A: new T; virtual void Thread.start(); B: return; H: return; catch Throwable A B H;"));
        same("nothing of run's", at(x, x.count(6) - 1, 10), "5006 5013 ");
    }

    /** "What is thrown comes to the first 'catch' (in order) that the instruction is in and whose class it is below: alone on the stack of its third label" */
    private static void firstCatch() {
        String e = "class E extends Throwable { } class F extends E { } class K { static method void s() { push 1; ifeq L; new E; throw; L: push 1; ifeq M; new F; throw; M: new Index; throw; } } ";
        ThreadJudge x = of(0, Judged.main(e, "new K; A: call void K.s(); B: pop; return; G: pop; return; H: pop; return; I: return; catch F A B G; catch E A B H; catch Throwable A B I;"));
        int last = x.count(6) - 1;
        // new E 16, new F 20, new Index 22
        same("F", at(x, last - 4, 10), "20 ");
        same("E", at(x, last - 2, 10), "16 ");
        same("the others", at(x, last, 10), "22 5006 ");
        Judged.due("alone", x.holds(last, 11, -1), -1);
        x = of(0, Judged.main(e, "A: call void K.s(); B: return; G: pop; return; H: return; catch E A B G; catch F A B H;"));
        last = x.count(6) - 1;
        same("both come to the first", at(x, last - 2, 10), "16 20 ");
        same("none to the second", at(x, last, 10), "");
        x = of(0, Judged.main(e, "A: push 1; pop; B: call void K.s(); return; H: return; catch Throwable A B H;"));
        same("not within", at(x, x.count(6) - 1, 10), "");
    }

    /** "named: for each STRING of the value that is a class's name: leaves that CLASS, and it begins" */
    private static void named() {
        String k = "class S { static method void <clinit>() { return; } } class K extends S { static method void <clinit>() { return; } } interface I { static method void <clinit>() { return; } } excluded class X { } ";
        // <clinit>s 17, 18, 19; S 19, K 20, I 21, X 22
        ThreadJudge x = of(0, Judged.main(k, "push 1; ifeq L; string \"K\"; goto M; L: string \"k\"; M: call Class Class.named(String); pop; string \"I\"; call Class Class.named(String); pop; string \"Throwable\"; call Class Class.named(String); pop; string \"\"; call Class Class.named(String); pop; string \"X\"; call Class Class.named(String); pop; return;"));
        int m = 17;
        same("K", at(x, m + 6, 10), "3020 ");
        same("I", at(x, m + 9, 10), "3021 ");
        same("Throwable", at(x, m + 12, 10), "3005 ");
        same("none", at(x, m + 15, 10), "");
        same("X", at(x, m + 18, 10), "3022 ");
        Judged.due("begins K", x.begins(20), 1);
        Judged.due("begins S", x.begins(19), 1);
        Judged.due("begins I", x.begins(21), 1);
        Judged.due("begins Throwable", x.begins(5), 1);
        Judged.due("begins X", x.begins(22), 1);
        Judged.due("begins Class", x.begins(3), 1);
        Judged.due("calls", x.calls(m + 5, false, -1), 2);
        Judged.due("S's", x.calls(m + 5, false, 0), 17);
        Judged.due("K's", x.calls(m + 5, false, 1), 18);
        // what 42 makes of String is no STRING
        x = of(0, Judged.main(k, "new String; call Class Class.named(String); pop; return;"));
        same("of no STRING", at(x, m + 2, 10), "");
    }

    /** "newInstance: for each CLASS of the receiver that is no interface and not abstract: it begins, leaves the object 6,000 .., and <init> without parameters that is found from it is called with that as receiver" */
    private static void newInstance() {
        String k = "class S { method void <init>() { return; } } class K extends S { static method void <clinit>() { return; } method void <init>(int) { return; } } class L extends K { method void <init>() { new Object; pop; return; } } abstract class Ab { } interface I { } class P { } ";
        // S.<init> 17 (14), K.<clinit> 18 (15), K.<init>(int) 19 (16), L.<init> 20 (17..19), main 21 from 20; S 19, K 20, L 21, Ab 22, I 23, P 24
        String[] names = {"K", "L", "Ab", "I", "P", "Runnable", "Object", "Cast"};
        int[] inits = {17, 20, -1, -1, 0, -1, 0, 0};
        int[] classes = {20, 21, 22, 23, 24, 1, 0, 9};
        for (int n = 0; n < names.length; n++) {
            for (int policy = 0; policy < 4; policy++) {
                ThreadJudge x = of(policy, Judged.main(k, "string \"" + names[n] + "\"; call Class Class.named(String); virtual Object Class.newInstance(); pop; return;"));
                boolean fine = inits[n] >= 0;
                same(names[n], at(x, 23, 10), fine ? (6000 + classes[n]) + " " : "");
                int calls = x.calls(22, false, -1);
                boolean clinit = names[n].equals("K") || names[n].equals("L");
                Judged.due("calls for " + names[n], calls, fine ? clinit ? 2 : 1 : 0);
                Judged.due("init of " + names[n], x.calls(22, false, clinit && inits[n] > 18 || clinit && inits[n] == 17 ? inits[n] == 17 ? 0 : 1 : 0), inits[n]);
            }
        }
        ThreadJudge x = of(0, Judged.main(k, "string \"L\"; call Class Class.named(String); virtual Object Class.newInstance(); pop; return;"));
        same("receiver of <init>", at(x, 17, 0), "6021 ");
        x = of(2, Judged.main(k, "string \"L\"; call Class Class.named(String); virtual Object Class.newInstance(); pop; return;"));
        Judged.yes("context is the site", object(x, 17, 6021) >= 0);
        x = of(0, Judged.main(k, "new Class; virtual Object Class.newInstance(); pop; return;"));
        same("of no CLASS", at(x, 22, 10), "");
    }

    /** "find: for each CLASS of the receiver and STRING of the value: the first of the class, what it extends, .. that has a method with lines of this name (none with <) without parameters: leaves that METHOD" */
    private static void find() {
        String k = "interface I { method void d() { return; } } class S { method void a() { return; } method void b() { return; } static method void st() { return; } } abstract class K extends S implements I { abstract method void a(); method void b(int) { return; } static method void b() { return; } method void <init>() { return; } method int n() { push 1; give; } static method void <clinit>() { return; } } ";
        // d 17, S.a 18, S.b 19, st 20, K.a 21, b(int) 22, b 23, <init> 24, n 25, <clinit> 26
        String[] names = {"a", "b", "st", "d", "n", "<init>", "<clinit>", "q", "", "wait"};
        int[] due = {18, 23, 20, -1, 25, -1, -1, -1, -1, -1};
        for (int k2 = 0; k2 < names.length; k2++) {
            ThreadJudge x = of(0, Judged.main(k, "string \"K\"; call Class Class.named(String); string \"" + names[k2] + "\"; virtual Method Class.find(String); pop; return;"));
            same("find " + names[k2], at(x, x.count(6) - 2, 10), due[k2] < 0 ? "" : (4000 + due[k2]) + " ");
        }
        ThreadJudge x = of(0, Judged.main(k, "string \"I\"; call Class Class.named(String); string \"d\"; virtual Method Class.find(String); pop; return;"));
        same("of the interface itself", at(x, x.count(6) - 2, 10), "4017 ");
        x = of(0, Judged.main(k, "new Class; string \"d\"; virtual Method Class.find(String); pop; return;"));
        same("of no CLASS", at(x, x.count(6) - 2, 10), "");
        x = of(0, Judged.main(k, "string \"S\"; call Class Class.named(String); new String; virtual Method Class.find(String); pop; return;"));
        same("by no STRING", at(x, x.count(6) - 2, 10), "");
        x = of(0, Judged.main(k, "string \"Thread\"; call Class Class.named(String); string \"run\"; virtual Method Class.find(String); pop; return;"));
        same("the library's", at(x, x.count(6) - 2, 10), "4011 ");
        // each with each
        x = of(0, Judged.main(k, "push 1; ifeq L; string \"S\"; goto M; L: string \"K\"; M: call Class Class.named(String); push 1; ifeq N; string \"a\"; goto O; N: string \"b\"; O: virtual Method Class.find(String); pop; return;"));
        same("each with each", at(x, x.count(6) - 2, 10), "4018 4019 4023 ");
    }

    /** "invoke: for each METHOD of the receiver: if it is static: its class begins, it is called; if not: for each object of the value that is below its class: .. of others what is selected, by this name without parameters, is called with it as receiver (NoMethod is thrown if none is, or it is native); leaves what it gives, if that is a reference" */
    private static void invoke() {
        String k = "class S { method Object a() { string \"sa\"; give; } } class K extends S { method Object a() { load 0; give; } static method Object st() { string \"st\"; give; } static method void <clinit>() { return; } method int n() { push 1; give; } } class P { } ";
        // S.a 17 (14, 15), K.a 18 (16, 17), st 19 (18, 19), <clinit> 20 (20), n 21 (21, 22), main 22 from 23
        String head = "string \"@\"; call Class Class.named(String); string \"#\"; virtual Method Class.find(String); ";
        ThreadJudge x = of(0, Judged.main(k, head.replace("@", "S").replace("#", "a") + "push 1; ifeq L; new K; goto M; L: push 1; ifeq N; new S; goto M; N: new P; M: virtual Object Method.invoke(Object); pop; return;"));
        int call = x.count(6) - 3;
        Judged.due("two are called", x.calls(call, false, -1), 2);
        Judged.due("S's", x.calls(call, false, 0), 17);
        Judged.due("K's", x.calls(call, false, 1), 18);
        same("receiver of S's", at(x, 14, 0), "33 ");
        same("receiver of K's", at(x, 16, 0), "29 ");
        same("given", at(x, call + 1, 10), "29 2000 ");
        Judged.yes("no NoMethod by it", at(x, call + 1, 10).indexOf("5015") < 0);
        x = of(0, Judged.main(k, head.replace("@", "P").replace("#", "a").replace("\"P\"", "\"K\"").replace("\"a\"", "\"st\"") + "null; virtual Object Method.invoke(Object); pop; return;"));
        call = x.count(6) - 3;
        Judged.due("static, and its class begins", x.calls(call, false, -1), 2);
        Judged.due("st", x.calls(call, false, 0), 19);
        Judged.due("<clinit>", x.calls(call, false, 1), 20);
        same("given by st", at(x, call + 1, 10), "2001 ");
        x = of(0, Judged.main(k, head.replace("@", "K").replace("#", "n") + "new K; virtual Object Method.invoke(Object); pop; return;"));
        same("a number leaves nothing", at(x, x.count(6) - 2, 10), "");
        Judged.due("n is called", x.calls(x.count(6) - 3, false, 0), 21);
        x = of(0, Judged.main(k, head.replace("@", "K").replace("#", "n") + "new S; virtual Object Method.invoke(Object); pop; return;"));
        Judged.due("not what is not below", x.calls(x.count(6) - 3, false, -1), 0);
        // none is selected; a native one is
        String i = "interface I { method void d() { return; } method void notify() { return; } } class A implements I { } abstract class B implements I { abstract method void d(); } class C extends B { } ";
        for (String one : new String[] {"C d 15", "A notify 15", "A d 0"}) {
            String[] words = one.split(" ");
            x = of(0, Judged.main(i, "string \"I\"; call Class Class.named(String); string \"" + words[1] + "\"; virtual Method Class.find(String); A: new " + words[0] + "; virtual Object Method.invoke(Object); B: pop; return; H: return; catch Throwable A B H;"));
            same("thrown by " + one, at(x, x.count(6) - 1, 10), words[2].equals("0") ? "5006 5009 " : "5006 5009 5015 ");
        }
    }

    /** "of a LAMBDA that was made for an abstract one of this name without parameters its m is called with what it HAS" */
    private static void invokeLambdas() {
        String k = "interface J { method Object f() { load 0; give; } method Object g() { string \"g\"; give; } } interface I implements J { abstract method Object f(); } interface W { abstract method Object f(int); method Object f() { string \"w\"; give; } } class K { static method Object l(Object) { load 0; give; } static method Object l2(int) { null; give; } } ";
        // J.f 17 (14, 15), g 18 (16, 17), I.f 19, W.f(int) 20, W.f 21 (18, 19), l 22 (20, 21), l2 23 (22, 23), main 24 from 24
        ThreadJudge x = of(0, Judged.main(k, "string \"J\"; call Class Class.named(String); string \"f\"; virtual Method Class.find(String); string \"h\"; lambda I Object K.l(Object); virtual Object Method.invoke(Object); pop; return;"));
        Judged.due("m is called", x.calls(30, false, 0), 22);
        Judged.due("alone", x.calls(30, false, -1), 1);
        same("with what it has", at(x, 20, 0), "2004 ");
        same("given", at(x, 31, 10), "2004 ");
        x = of(0, Judged.main(k, "string \"J\"; call Class Class.named(String); string \"g\"; virtual Method Class.find(String); string \"h\"; lambda I Object K.l(Object); virtual Object Method.invoke(Object); pop; return;"));
        Judged.due("g is selected", x.calls(30, false, 0), 18);
        same("with it as receiver", at(x, 16, 0), "29 ");
        x = of(0, Judged.main(k, "string \"W\"; call Class Class.named(String); string \"f\"; virtual Method Class.find(String); lambda W Object K.l2(int); virtual Object Method.invoke(Object); pop; return;"));
        Judged.due("made for one with a parameter: f() is selected", x.calls(29, false, 0), 21);
        Judged.due("alone", x.calls(29, false, -1), 1);
    }

    /** "start: for each object of the receiver, and hook: for each of the value: what is selected from it for run(): an instance with that as receiver (context as if the instruction called it) .. these are STARTED there, not called" */
    private static void startAndHook() {
        String t = "class T extends Thread { method void run() { new Object; pop; return; } } class U extends T { method void uncaught(Throwable) { new Object; pop; return; } } class V extends Thread { method void start() { return; } method void go() { load 0; special void Thread.start(); return; } } ";
        // T.run 17 (14..16), U.uncaught 18 (17..19), V.start 19 (20), go 20 (21..23), main 21 from 24
        for (String op : new String[] {"virtual void Thread.start()", "call void Runtime.hook(Thread)"}) {
            ThreadJudge x = of(0, Judged.main(t, "push 1; ifeq L; new T; goto M; L: new U; M: " + op + "; return;"));
            int i = x.count(6) - 2;
            Judged.due("called by " + op, x.calls(i, false, -1), 0);
            Judged.due("started by " + op, x.calls(i, true, -1), 3);
            Judged.due("uncaught", x.calls(i, true, 0), 12);
            Judged.due("run", x.calls(i, true, 1), 17);
            Judged.due("U's uncaught", x.calls(i, true, 2), 18);
            same("receivers of run", at(x, 14, 0), "26 28 ");
            same("receiver of U's uncaught", at(x, 17, 0), "28 ");
            same("receiver of Thread's", at(x, 13, 0), "26 ");
            Judged.due("threads", x.count(10), 3);
            x = of(2, Judged.main(t, "new T; " + op + "; new T; " + op + "; return;"));
            Judged.yes("context is the receiver's site", object(x, 14, 24) >= 0 && object(x, 14, 26) >= 0);
            x = of(3, Judged.main(t, "new T; " + op + "; new T; " + op + "; return;"));
            Judged.yes("or the class where that stands", object(x, 14, 22) >= 0);
            x = of(1, Judged.main(t, "new T; dup; " + op + "; " + op + "; return;"));
            Judged.due("or the instruction", x.reached(17, 0), 2);
        }
        // start that is overridden starts nothing; by 50 it does
        ThreadJudge x = of(0, Judged.main(t, "new V; virtual void Thread.start(); return;"));
        Judged.due("called", x.calls(25, false, 0), 19);
        Judged.due("nothing started", x.calls(25, true, -1), 0);
        Judged.due("no thread", x.count(10), 1);
        x = of(0, Judged.main(t, "new V; virtual void V.go(); return;"));
        Judged.due("started by 50", x.calls(22, true, -1), 2);
        Judged.due("run of Thread", x.calls(22, true, 0), 11);
        // join starts nothing
        x = of(0, Judged.main(t, "new T; virtual void Thread.join(); return;"));
        Judged.due("join", x.calls(25, true, -1), 0);
        Judged.due("no thread by join", x.count(10), 1);
    }

    /** "what that lets go comes, as the value, to an instance of what is selected for uncaught(Throwable), likewise (which is there, too, when nothing is let go)" */
    private static void uncaughtTakesWhatIsLetGo() {
        String t = "class T extends Thread { method void run() { A: new Index; throw; B: pop; return; H: new Cast; throw; catch Index A B H; } method void uncaught(Throwable) { new State; throw; } } ".replace("B: pop; return;", "B: null; pop; return;").replace("H: new", "H: pop; new");
        ThreadJudge x = of(0, Judged.main(t, "new T; virtual void Thread.start(); return;"));
        int u = x.method(18, 3);
        same("what run lets go", at(x, u, 1), "20 5006 ");
        same("its receiver", at(x, u, 0), x.method(19, 3) + " ");
        x = of(0, Judged.main("class T extends Thread { method void run() { return; } } ", "new T; virtual void Thread.start(); return;"));
        Judged.due("there is uncaught, too", x.reached(12, 0), 1);
        same("of nothing", at(x, 13, 1), "");
        Judged.due("instances", x.count(8), 3);
        // what uncaught lets go comes nowhere
        x = of(0, Judged.main("class T extends Thread { method void run() { return; } method void uncaught(Throwable) { new State; throw; } } ", "A: new T; virtual void Thread.start(); B: return; H: return; catch Throwable A B H;"));
        same("at main", at(x, x.count(6) - 1, 10), "5006 5013 ");
    }

    /** "(If none is selected for one of both, there is no such instance; the thread is one all the same.)" */
    private static void noneSelected() {
        String t = "abstract class R extends Thread { abstract method void run(); } class T extends R { } abstract class U extends Thread { abstract method void uncaught(Throwable); } class V extends U { } ";
        ThreadJudge x = of(0, Judged.main(t, "new T; virtual void Thread.start(); return;"));
        Judged.due("uncaught alone", x.calls(15, true, -1), 1);
        Judged.due("uncaught", x.calls(15, true, 0), 12);
        Judged.due("threads", x.count(10), 2);
        x = of(0, Judged.main(t, "new V; virtual void Thread.start(); return;"));
        Judged.due("run alone", x.calls(15, true, -1), 1);
        Judged.due("run", x.calls(15, true, 0), 11);
        Judged.due("threads", x.count(10), 2);
    }

    /** "its methods with lines make no instances, wherever they would be called or started, or begin: each instruction of an instance at which that is so is UNRESOLVED. (Its own beginning is known, its <clinit> is not looked at.)" */
    private static void excluded() {
        String e = "excluded class E { static field int n; static method void s() { return; } method void m() { return; } method void <init>() { return; } } excluded class B { static method void <clinit>() { new Object; throw_; } } ".replace("new Object; throw_;", "new Cast; throw;")
            + "excluded class T extends Thread { method void run() { return; } method void uncaught(Throwable) { return; } } class D extends B { } class F extends E { } excluded interface I { abstract method void i(); method void d() { return; } } class J implements I { method void i() { return; } } ";
        String[] lines = {"getstatic E.n; pop;", "call void E.s();", "null; virtual void E.m();", "new E; virtual void E.m();", "new F; virtual void F.m();", "new E; special void E.<init>();", "new B; pop;", "new D; pop;", "new T; virtual void Thread.start();",
            "new T; call void Runtime.hook(Thread);", "lambda Runnable void E.s(); virtual void Runnable.run();", "lambda Runnable void E.s(); pop;", "string \"E\"; call Class Class.named(String); virtual Object Class.newInstance(); pop;", "string \"B\"; call Class Class.named(String); pop;",
            "string \"E\"; call Class Class.named(String); string \"s\"; virtual Method Class.find(String); null; virtual Object Method.invoke(Object); pop;", "new J; virtual void I.i();", "new J; virtual void I.d();", "new F; special void Object.<init>();", "push 1; array E; pop;", "new T; virtual void Thread.join();"};
        int[] due = {0, 1, 0, 1, 1, 1, 1, 1, 1, 1, 1, 0, 1, 1, 1, 0, 1, 0, 0, 0};
        int[] where = {0, 0, 0, 1, 1, 1, 0, 0, 1, 1, 1, 0, 2, 1, 5, 0, 1, 0, 0, 0};
        for (int k = 0; k < lines.length; k++) {
            ThreadJudge x = of(0, Judged.main(e, lines[k] + " return;"));
            int first = x.method(x.count(5) - 1, 3);
            Judged.due("unresolved: " + lines[k], x.count(15), due[k]);
            Judged.due("at " + lines[k], x.unresolved(0), due[k] > 0 ? first + where[k] : -1);
            Judged.due("no more", x.unresolved(due[k]), -1);
            for (int m = 17; m < x.count(5) - 2; m++) {
                Judged.due("instances of " + m, x.reached(m, 0), 0);
            }
        }
        ThreadJudge x = of(0, Judged.main(e, "A: new D; pop; B: return; H: return; catch Throwable A B H;"));
        Judged.due("D begins", x.begins(22), 1);
        Judged.due("B begins", x.begins(20), 1);
        same("what its <clinit> throws is not looked at", at(x, x.count(6) - 1, 10), "");
        // not what is never come to, nor what has no instance
        x = of(0, Judged.main(e + "class G { static method void g() { call void E.s(); return; } } ", "return; call void E.s();"));
        Judged.due("no instance", x.count(15), 0);
        // once for all instances together, in order
        x = of(1, Judged.main(e + "class G { static method void g() { call void E.s(); call void E.s(); return; } } ", "call void G.g(); call void G.g(); return;"));
        Judged.due("two", x.count(15), 2);
        Judged.yes("in order", x.unresolved(0) + 1 == x.unresolved(1));
        Judged.due("- 1", x.unresolved(-1), -1);
    }

    /** "An 'excluded' class is not looked into: its methods with lines make no instances": its own, not what it is below, nor what is below it */
    private static void excludedAlone() {
        String text = "class D { static field Object o; static method void <clinit>() { new Cast; throw; } method void m() { load 0; putstatic D.o; return; } method void <init>() { return; } static method void s() { return; } } "
            + "interface J { method void j() { return; } } excluded class E extends D implements J { } class F extends E { method void f() { return; } static method void <clinit>() { return; } } excluded class G extends F { method void m() { return; } } ";
        // D 19: <clinit> 17, m 18, <init> 19, s 20; J 20: j 21; E 21; F 22: f 22, <clinit> 23; G 23: m 24
        String[] lines = {"new E; pop;", "new E; virtual void D.m();", "new E; special void D.<init>();", "new E; virtual void J.j();", "call void E.s();", "new F; virtual void F.f();", "new F; pop;", "new G; virtual void F.f();", "new G; pop;",
            "new G; virtual void D.m();", "string \"E\"; call Class Class.named(String); virtual Object Class.newInstance(); pop;",
            "string \"E\"; call Class Class.named(String); string \"m\"; virtual Method Class.find(String); new E; virtual Object Method.invoke(Object); pop;", "lambda Runnable void E.s(); virtual void Runnable.run();"};
        String[] due = {"17", "17 18", "17 19", "17 21", "17 20", "17 22 23", "17 23", "17 22 23", "17 23", "17 23", "17 19", "17 18", "20"};
        for (int k = 0; k < lines.length; k++) {
            for (int policy = 0; policy < 4; policy++) {
                ThreadJudge x = of(policy, Judged.main(text, "A: " + lines[k] + " B: return; H: return; catch Cast A B H;"));
                StringBuilder all = new StringBuilder();
                for (int m = 17; m < 25; m++) {
                    all.append(x.reached(m, 0) > 0 ? " " + m : "");
                }
                same("instances of " + lines[k], all.toString(), " " + due[k]);
                Judged.due("unresolved of " + lines[k], x.count(15), k == 9 ? 1 : 0);
                String thrown = lines[k].startsWith("lambda") ? "" : x.method(17, 3) + " ";
                same("Cast that comes: " + lines[k], at(x, x.count(6) - 1, 10), thrown + (lines[k].contains("invoke") ? "5009 " : ""));
            }
        }
        ThreadJudge x = of(0, Judged.main(text, "new E; virtual void D.m(); getstatic D.o; pop; return;"));
        same("the receiver is of the class that is not looked into", at(x, x.method(18, 3), 0), (x.count(6) - 5) + " ");
        same("and comes into the field", at(x, x.count(6) - 2, 10), (x.count(6) - 5) + " ");
    }

    /** "analyse() takes another policy than it was told, namely 0, and is DEGRADED, if by the one told there would be more instances than are granted" .. "(Told 0, it goes on all the same, and is DEGRADED.)" */
    private static void degraded() {
        String text = Judged.main("class K { static method void s() { new K; pop; return; } static method void t() { return; } }", "call void K.s(); call void K.s(); call void K.t(); return;");
        ThreadJudge x = Judged.loaded(text);
        int[] least = {3, 4, 3, 3};
        for (int policy = 0; policy < 4; policy++) {
            for (int granted = 1; granted < 6; granted++) {
                boolean enough = granted >= least[policy];
                Judged.due("instances by " + policy + ", " + granted, x.analyse(policy, granted), enough ? least[policy] : 3);
                Judged.due("count(8)", x.count(8), enough ? least[policy] : 3);
                Judged.due("degraded", x.count(16), enough ? 0 : 1);
                Judged.due("begins", x.begins(19), 1);
            }
        }
        Judged.due("again", x.analyse(1, 4), 4);
        Judged.due("not degraded any more", x.count(16), 0);
    }

    /** "For each instance and each instruction of it that is come to" */
    private static void notComeTo() {
        ThreadJudge x = of(0, Judged.main("class K { static method void s() { return; } static method void t() { return; new K; call void K.s(); new Thread; virtual void Thread.start(); string \"a\"; putstatic Main.o; } } ", "call void K.t(); return; call void K.s();").replace("class Main {", "class Main { static field Object o;"));
        Judged.due("s", x.reached(17, 0), 0);
        Judged.due("threads", x.count(10), 1);
        Judged.due("objects", x.count(9), 0);
        Judged.due("static", x.field(0, 1, -1), 0);
        Judged.due("but all of its method counts", x.count(11), 3 + 7);
        Judged.due("held before it", x.holds(16, 0, -1), -1);
    }

    /** "(some instance makes, leaves, or throws them; the CLASS of an instance that is static and 'synchronized')" */
    private static void classOfLock() {
        ThreadJudge x = of(0, Judged.main("class K { static synchronized method void s() { return; } synchronized method void m() { return; } } class L { static synchronized method void n() { return; } } ", "call void K.s(); return;"));
        Judged.due("one object", x.count(9), 1);
        Judged.due("K's CLASS", x.object(0, 0), 3019);
        Judged.due("of Class", x.object(0, 2), 3);
        x = of(0, Judged.main("class K { synchronized method void m() { return; } } ", "new K; virtual void K.m(); return;"));
        Judged.due("no CLASS of what is not static", x.object(0, 0), 15);
        Judged.due("but what is made and NullPointer", x.count(9), 2);
        Judged.due("no CLASS", object(x, 3019, -1), -1);
        x = of(0, "class Main { static synchronized method void main() { return; } }");
        Judged.due("MAIN's", x.object(0, 0), 3019);
        x = of(0, Judged.main("excluded class K { static synchronized method void s() { return; } } ", "call void K.s(); return;"));
        Judged.due("no instance, no CLASS", x.count(9), 0);
    }
}
