/** Natives where what they take is of an unlike make: by newInstance(), the first of all objects, of several classes; in the machine and in what may be. */
public final class NativesTest {
    private static final String P = " call void Out.print(int); ";
    private static final String A = "class A { field A a; method void m() { push 7;" + P + "return; } static method Object s() { push 8;" + P + "null; give; } } class B { method void m() { push 9;" + P + "return; } } ";

    private NativesTest() {
    }

    public static void main(String[] args) {
        madeByNewInstance();
        newInstanceOfObject();
        invokeOfUnlikeValues();
        namesOfNone();
        theFirstObject();
        theFirstThing();
        targetOfThread();
        foundInItsClassAlone();
        lambdaOfMany();
        hooksByContexts();
        eachOfSeveral();
        Judged.end();
    }

    private static void same(String what, String got, String want) {
        Judged.yes(what + ": " + got + ", due is " + want, got.equals(want));
    }

    private static String made(String name) {
        return "string \"" + name + "\"; call Class Class.named(String); virtual Object Class.newInstance(); cast " + name + "; ";
    }

    private static String found(String name, String method) {
        return "string \"" + name + "\"; call Class Class.named(String); string \"" + method + "\"; virtual Method Class.find(String); ";
    }

    private static ThreadJudge of(String text) {
        ThreadJudge x = Judged.loaded(text);
        x.analyse(0, 300);
        return x;
    }

    /** The sites of what a place may hold, each with a blank behind it. */
    private static String at(ThreadJudge x, int i, int place) {
        StringBuilder all = new StringBuilder();
        for (int k = 0; k < x.holds(i, place, -1); k++) {
            all.append(x.object(x.holds(i, place, k), 0)).append(' ');
        }
        return all.toString();
    }

    /** The methods that an instruction calls, each with a blank behind it. */
    private static String calls(ThreadJudge x, int i) {
        StringBuilder all = new StringBuilder();
        for (int k = 0; k < x.calls(i, false, -1); k++) {
            all.append(x.calls(i, false, k)).append(' ');
        }
        return all.toString();
    }

    /** Of several arrays, things with fields, strings and receivers, each in a local of its own, an instruction takes what it takes, not the first one, nor those behind. */
    private static void eachOfSeveral() {
        String classes = "class K { field Object o; method void a() { return; } method void b() { return; } method void c() { return; } } class L extends K { } class M extends K { } ";
        for (int k = 1; k < 4; k++) {
            // arrays: the first of all objects, the second, the third
            String makes = "push 1; array Object; store 1; push 1; array Object; store 2; push 1; array Object; store 3; ";
            String puts = "load 1; push 0; string \"x\"; setelement; load 2; push 0; string \"y\"; setelement; load 3; push 0; string \"z\"; setelement; ";
            ThreadJudge x = of(Judged.main(classes, makes + puts + "load " + k + "; push 0; element; return;"));
            int last = x.count(6) - 1;
            same("element of array " + k, at(x, last, 10), (1999 + k) + " ");
            for (int o = 0; o < 3; o++) {
                Judged.due("elements of " + o, x.field(o, -1, -1), 1);
                Judged.due("its string", x.object(x.field(o, -1, 0), 0), 2000 + o);
            }
            // one of the three takes what comes, the others do not
            x = of(Judged.main(classes, makes + "load " + k + "; push 0; string \"x\"; setelement; load 1; push 0; element; pop; load 2; push 0; element; pop; load 3; push 0; element; return;"));
            last = x.count(6) - 1;
            for (int o = 0; o < 3; o++) {
                Judged.due("elements", x.field(o, -1, -1), o == k - 1 ? 1 : 0);
                same("element", at(x, last - 8 + 4 * o, 10), o == k - 1 ? "2000 " : "");
            }
            // fields
            String things = "new K; store 1; new K; store 2; new K; store 3; ";
            x = of(Judged.main(classes, things + "load " + k + "; string \"x\"; put K.o; load 1; get K.o; pop; load 2; get K.o; pop; load 3; get K.o; return;"));
            last = x.count(6) - 1;
            for (int o = 0; o < 3; o++) {
                Judged.due("field", x.field(o, 1, -1), o == k - 1 ? 1 : 0);
                same("got", at(x, last - 6 + 3 * o, 10), o == k - 1 ? "2000 " : "");
            }
            // strings of find; receivers of invoke; of 49, 50
            String names = "string \"a\"; store 1; string \"b\"; store 2; string \"c\"; store 3; ";
            x = of(Judged.main(classes, names + "string \"K\"; call Class Class.named(String); load " + k + "; virtual Method Class.find(String); return;"));
            same("found by string " + k, at(x, x.count(6) - 1, 10), (4000 + 17 + k - 1) + " ");
            for (String call : new String[] {found("K", "a") + "load @; virtual Object Method.invoke(Object); pop;", "load @; virtual void K.a();", "load @; cast K; virtual void K.a();"}) {
                x = of(Judged.main(classes, "new K; store 1; new L; store 2; new M; store 3; " + call.replace("@", "" + k) + " return;"));
                same("receiver " + k + " of " + call, at(x, 14, 0), (17 + 2 * k - 2) + " ");
            }
            x = of(Judged.main(classes + "class T extends Thread { method void run() { return; } } ", "new T; store 1; new T; store 2; new T; store 3; load " + k + "; virtual void Thread.start(); load " + (k % 3 + 1) + "; call void Runtime.hook(Thread); return;"));
            Judged.due("threads", x.count(10), 3);
            for (int o = 0; o < 3; o++) {
                Judged.due("started " + o, x.object(o, 5) > 0 ? 1 : 0, o == k - 1 || o == k % 3 ? 1 : 0);
                Judged.due("escapes " + o, x.object(o, 4), o == k - 1 || o == k % 3 ? 1 : 0);
            }
            String[] named = {"K", "L", "M"};
            String classNames = "string \"K\"; store 1; string \"L\"; store 2; string \"M\"; store 3; ";
            x = of(Judged.main(classes, classNames + "load " + k + "; call Class Class.named(String); virtual Object Class.newInstance(); return;"));
            same("made of " + named[k - 1], at(x, x.count(6) - 1, 10), (6000 + 18 + k) + " ");
            Judged.due("begins", x.begins(19) * 100 + x.begins(20) * 10 + x.begins(21), 100 + (k == 2 ? 10 : 0) + (k == 3 ? 1 : 0));
        }
        // what holds others, and does not escape itself
        ThreadJudge x = of(Judged.main(classes, "new K; store 1; new K; store 2; load 1; load 2; put K.o; push 1; array Object; store 3; load 3; push 0; load 1; setelement; load 3; push 0; load 2; setelement; lambda Runnable void Main.main(); pop; return;"));
        for (int o = 0; o < x.count(9); o++) {
            Judged.due("none escapes: " + o, x.object(o, 4), 0);
        }
    }

    /** What the machine throws at the last of these lines (- 1: nothing), and what that leaves by what may be. */
    private static void both(String lines, int type, String leaves, String called) {
        ThreadJudge x = of(Judged.main(A, "A: " + lines + " pop; B: push 1; store 9; return; H: store 8; push 2; store 9; return; catch Throwable A B H;"));
        // pop, push, store, return, store, push, store, return
        int pop = x.count(6) - 8;
        same("leaves: " + lines, at(x, pop, 10), leaves);
        same("calls: " + lines, calls(x, pop - 1), called);
        x.begin();
        for (int k = 0; k < 60 && x.local(0, 9) == 0; k++) {
            x.step(0);
        }
        Judged.due("thrown: " + lines, x.local(0, 9), type < 0 ? 1 : 2);
        if (type >= 0) {
            Judged.due("class: " + lines, x.thing(x.local(0, 8), 0), type);
        }
        Judged.yes("foreseen: " + lines, x.foreseen());
    }

    /** "named of what is no STRING (things that 42 makes of class String are none) .., newInstance of what is no CLASS ..: NoClass; find of what is no CLASS, by what is no STRING ..: NoMethod; invoke of what is no METHOD (before all else) ..: Cast" */
    private static void madeByNewInstance() {
        both(made("String") + "call Class Class.named(String);", 14, "", "");
        both(made("Class") + "virtual Object Class.newInstance();", 14, "", "");
        both(made("Class") + "string \"m\"; virtual Method Class.find(String);", 15, "", "");
        both(made("Method") + "new A; virtual Object Method.invoke(Object);", 9, "", "");
        both(made("Method") + "null; virtual Object Method.invoke(Object);", 9, "", "");
        both("string \"A\"; call Class Class.named(String); " + made("String") + "virtual Method Class.find(String);", 15, "", "");
        both("new String; call Class Class.named(String);", 14, "", "");
        both("new Class; virtual Object Class.newInstance();", 14, "", "");
        both("new Class; string \"m\"; virtual Method Class.find(String);", 15, "", "");
        both("new Method; new A; virtual Object Method.invoke(Object);", 9, "", "");
        // what is made so is an object of its class all the same
        both(made("A") + "store 1; " + found("A", "m") + "load 1; virtual Object Method.invoke(Object);", -1, "", "17 ");
        both(made("B") + "store 1; " + found("A", "m") + "load 1; virtual Object Method.invoke(Object);", 9, "", "");
    }

    /** "6,000 and a class's (what newInstance() makes of it)": of Object, too, whose number is 0 */
    private static void newInstanceOfObject() {
        both("string \"Object\"; call Class Class.named(String); virtual Object Class.newInstance();", -1, "6000 ", "0 ");
        ThreadJudge x = of(Judged.main("", "string \"Object\"; call Class Class.named(String); virtual Object Class.newInstance(); return;"));
        int o = x.holds(17, 10, 0);
        Judged.due("of class Object", x.object(o, 2), 0);
        Judged.due("not singular", x.object(o, 3), 0);
        same("the CLASS", at(x, 16, 10), "3000 ");
        x.begin();
        x.run(4, 0);
        Judged.due("site", x.thing(x.local(0, 10), 1), 6000);
        Judged.due("class", x.thing(x.local(0, 10), 0), 0);
        Judged.yes("foreseen", x.foreseen());
    }

    /** "if not: for each object of the value that is below its class: .. what is selected, by this name without parameters, is called with it as receiver (NoMethod is thrown if none is, or it is native)" */
    private static void invokeOfUnlikeValues() {
        String two = "push 0; ifeq L; new A; goto M; L: new @; M: store 1; ";
        both(two.replace("@", "B") + found("A", "m") + "load 1; virtual Object Method.invoke(Object);", 9, "", "17 ");
        both(two.replace("@", "Object") + found("A", "m") + "load 1; virtual Object Method.invoke(Object);", 9, "", "17 ");
        for (String other : new String[] {"B", "Object", "A", "Cast", "String"}) {
            ThreadJudge x = of(Judged.main(A, two.replace("@", other) + found("A", "m") + "load 1; A: virtual Object Method.invoke(Object); B: pop; return; H: return; catch NoMethod A B H;"));
            same("no NoMethod by " + other, at(x, x.count(6) - 1, 10), "");
        }
        // a static one does not look at the value
        both(found("A", "s") + "new B; virtual Object Method.invoke(Object);", -1, "", "18 ");
        both(found("A", "s") + "null; virtual Object Method.invoke(Object);", -1, "", "18 ");
    }

    /** "named: for each STRING of the value that is a class's name" */
    private static void namesOfNone() {
        for (String name : new String[] {"a", "AA", "", "A ", "int", "void", "A[]", "object"}) {
            both("string \"" + name + "\"; call Class Class.named(String);", 14, "", "");
            ThreadJudge x = of(Judged.main(A, "string \"" + name + "\"; call Class Class.named(String); pop; return;"));
            Judged.due("threads of " + name, x.count(10), 1);
            Judged.due("starts of " + name, x.calls(x.count(6) - 3, true, -1), 0);
            Judged.due("A begins by " + name, x.begins(19), 0);
            Judged.due("Class begins by " + name, x.begins(3), 1);
        }
    }

    /** "OBJECTS that are there": the first one that is met counts as each other one. */
    private static void theFirstObject() {
        both("string \"m\"; store 1; string \"A\"; call Class Class.named(String); load 1; virtual Method Class.find(String);", -1, "4017 ", "");
        both("new A; store 1; " + found("A", "m") + "load 1; virtual Object Method.invoke(Object);", -1, "", "17 ");
        both("new B; store 1; " + found("A", "m") + "load 1; virtual Object Method.invoke(Object);", 9, "", "");
        // a LAMBDA
        String j = "interface J { method void f() { return; } } interface I extends J { } ".replace("I extends J { }", "I implements J { abstract method void f(); }") + "class K { static method void k() { return; } } ";
        ThreadJudge x = of(Judged.main(j, "lambda I void K.k(); store 1; " + found("J", "f") + "load 1; virtual Object Method.invoke(Object); pop; return;"));
        same("the lambda's", calls(x, x.count(6) - 3), x.instruction(16, 2) + " ");
        // the CLASS that MAIN holds
        x = of("class Main { static synchronized method void main() { return; } }");
        Judged.due("surely", x.held(14, true, -1) * 10 + x.held(14, true, 0), 10);
        Judged.due("maybe", x.held(14, false, -1) * 10 + x.held(14, false, 0), 10);
        same("the CLASS", x.object(0, 0) + " " + x.count(9), "3019 1");
        // the receiver that a method holds; what it enters; what it waits at
        x = of(Judged.main("class K { synchronized method void k() { return; } } ", "new K; virtual void K.k(); return;"));
        Judged.due("the receiver", x.held(14, true, -1) * 10 + x.held(14, true, 0), 10);
        x = of(Judged.main("", "L: string \"s\"; enter; string \"s\"; virtual void Object.wait(); null; exit; goto L;"));
        Judged.due("entered", x.held(16, true, -1) * 10 + x.held(16, true, 0), 10);
        Judged.due("neither loose nor rash", x.count(14), 0);
        // a thread
        x = of(Judged.main("", "new Thread; dup; virtual void Thread.start(); virtual void Thread.join(); return;"));
        Judged.due("thread 1", x.thread(1, 0), 0);
        Judged.due("is it", x.object(0, 5), 1);
        Judged.due("behind the join", x.parallel(18, x.method(11, 3)), 0);
        Judged.due("at the join", x.parallel(17, x.method(11, 3)), 1);
        Judged.due("uncaught's receiver", x.count(10), 2);
        // what is thrown
        x = of(Judged.main("", "A: new Cast; throw; B: return; H: return; catch Cast A B H;".replace("B: return; H:", "B: H:")));
        same("caught", at(x, 16, 10), "14 ");
        // an array, and another one behind it
        x = of(Judged.main("", "push 1; array Object; store 1; push 1; array Object; store 2; push 0; ifeq L; load 1; goto M; L: load 2; M: store 3; load 3; push 0; string \"s\"; setelement; load 3; push 0; element; pop; load 1; push 0; element; pop; load 2; push 0; element; pop; return;"));
        same("both arrays", x.field(0, -1, -1) + " " + x.field(1, -1, -1), "1 1");
        same("of the first", at(x, x.count(6) - 6, 10) + at(x, x.count(6) - 2, 10), "2000 2000 ");
        x = of(Judged.main("", "push 1; array Object; store 1; push 1; array Object; store 2; load 1; push 0; string \"s\"; setelement; load 2; push 0; string \"t\"; setelement; push 0; ifeq L; load 1; goto M; L: load 2; M: push 0; element; pop; return;"));
        same("of both", at(x, x.count(6) - 2, 10), "2000 2001 ");
        // what is given, what a field and an element hold
        x = of(Judged.main("class K { static field Object f; static method Object g() { new Object; give; } } ", "call Object K.g(); putstatic K.f; push 1; array Object; store 1; load 1; push 0; getstatic K.f; setelement; load 1; push 0; element; pop; return;"));
        same("given", at(x, 17, 10), "14 ");
        same("held by the field", at(x, 24, 12), "14 ");
        same("held by the array", at(x, 28, 10), "14 ");
        Judged.due("escapes", x.object(0, 4), 1);
        Judged.due("the array does not", x.object(1, 4), 0);
    }

    /** Thing 0 is one as each other: as a receiver, a value, a LOCK, what is started and joined. */
    private static void theFirstThing() {
        ThreadJudge x = Judged.loaded(Judged.main("class K { field K k; synchronized method void s() { return; } } ", "new K; store 1; load 1; load 1; put K.k; load 1; get K.k; store 2; load 1; load 2; same L; return; L: load 1; enter; null; pop; load 1; exit; load 1; virtual void K.s(); push 5;" + P + "return;"));
        x.begin();
        x.run(14, 0);
        Judged.due("entered", x.thing(0, 3), 1);
        Judged.due("by 0", x.thing(0, 4), 0);
        Judged.due("in local 1", x.local(0, 1), 0);
        Judged.due("in local 3 none", x.local(0, 3), 0);
        Judged.due("its field", x.value(0, 1), 0);
        x.run(100, 0);
        Judged.due("to the end", x.said(0), 5);
        Judged.due("free", x.thing(0, 3), 0);
        x = Judged.loaded(Judged.main("", "new Thread; store 1; load 1; virtual void Thread.start(); load 1; virtual void Thread.join(); push 6;" + P + "return;"));
        x.begin();
        for (int k = 0; k < 5; k++) {
            x.step(0);
        }
        Judged.due("waits for thread 1", x.step(0), 0);
        Judged.due("told so", x.state(0, 0), 3);
        while (x.step(1) == 1) {
            continue;
        }
        Judged.due("goes on", x.run(10, 0), 4);
        Judged.due("said", x.said(0), 6);
        // thing 0 is asleep, is told
        x = Judged.loaded("class T extends Thread { static field Object o; method void run() { getstatic T.o; enter; getstatic T.o; virtual void Object.notify(); null; pop; getstatic T.o; exit; return; } } " + Judged.main("", "new Object; putstatic T.o; getstatic T.o; enter; new T; virtual void Thread.start(); getstatic T.o; virtual void Object.wait(); getstatic T.o; exit; push 3;" + P + "return;"));
        x.begin();
        for (int k = 0; k < 8; k++) {
            Judged.due("step " + k, x.step(0), 1);
        }
        Judged.due("sleeps", x.state(0, 0), 2);
        Judged.due("at thing 0", x.state(0, 4), 0);
        x.run(100, 4);
        Judged.due("said", x.said(0), 3);
        // thing 0 is hooked
        x = Judged.loaded(Judged.main("class T extends Thread { method void run() { push 4;" + P + "return; } } ", "new T; call void Runtime.hook(Thread); return;"));
        x.begin();
        x.run(100, 4);
        Judged.due("hooked", x.said(0), 4);
    }

    /** "field Runnable target" of a Thread: the library's one field, number 0 */
    private static void targetOfThread() {
        String k = "class K { static method void k() { return; } } class T extends Thread { } ";
        ThreadJudge x = of(Judged.main(k, "new T; store 1; load 1; lambda Runnable void K.k(); special void Thread.<init>(Runnable); load 1; get Thread.target; pop; load 1; virtual void Thread.start(); return;".replace("special void Thread.<init>(Runnable)", "put Thread.target")));
        Judged.due("target of the first object", x.field(0, 0, -1), 1);
        Judged.due("the LAMBDA", x.object(x.field(0, 0, 0), 0), 18);
        Judged.due("no second", x.field(0, 0, 1), -1);
        Judged.due("of the LAMBDA none", x.field(1, 0, -1), 0);
        x = of(Judged.main(k, "new Object; pop; new Thread; dup; new T; put Thread.target; dup; new Thread; special void Thread.<init>(Runnable); pop; return;"));
        same("of another one", x.object(1, 0) + " " + x.field(1, 0, -1) + " " + x.field(1, 0, 0) + " " + x.field(1, 0, 1), "17 2 2 3");
        Judged.due("of no Thread none", x.field(0, 0, -1), 0);
    }

    /** "a call of its method m, with what it HAS and then the values" */
    private static void lambdaOfMany() {
        String f = "interface F { abstract method int f(int, Object); } class K { static method int k(int, Object, int, Object, int, Object) { load 0;" + P + "load 1; is A;" + P + "load 2;" + P + "load 3; is B;" + P + "load 4;" + P + "load 5; is K;" + P + "push 6; give; } } ";
        ThreadJudge x = of(Judged.main(A + f, "push 99; push 98; push 97; push 96; push 95; push 94; pop; pop; pop; pop; pop; pop; push 11; new A; push 12; new B; lambda F int K.k(int, Object, int, Object, int, Object); push 13; new K; virtual int F.f(int, Object);" + P + "return;"));
        x.begin();
        for (int k = 0; k < 20; k++) {
            Judged.due("step " + k, x.step(0), 1);
        }
        Judged.due("in k", x.state(0, 3), x.count(5) - 2);
        int[] locals = {11, 0, 12, 1, 13, 3, 0, 0, 0, 0};
        for (int k = 0; k < 10; k++) {
            Judged.due("local " + k, x.local(0, k), locals[k]);
        }
        x.run(100, 1);
        int[] due = {11, 1, 12, 1, 13, 1, 6};
        for (int k = 0; k < due.length; k++) {
            Judged.due("said " + k, x.said(k), due[k]);
        }
        Judged.due("no more", x.count(20), due.length);
        Judged.yes("foreseen", x.foreseen());
        // one that has one, or none: what is not set is 0
        x = of(Judged.main("interface G { abstract method void g(); } class K { static method void one(int) { return; } static method void none() { return; } } ", "push 99; push 98; push 97; push 96; pop; pop; pop; pop; push 5; lambda G void K.one(int); virtual void G.g(); lambda G void K.none(); virtual void G.g(); return;"));
        x.begin();
        for (int k = 0; k < 11; k++) {
            Judged.due("step " + k, x.step(0), 1);
        }
        for (int k = 0; k < 10; k++) {
            Judged.due("local " + k + " of one", x.local(0, k), k == 0 ? 5 : 0);
        }
        for (int k = 0; k < 3; k++) {
            Judged.due("step", x.step(0), 1);
        }
        for (int k = 0; k < 10; k++) {
            Judged.due("local " + k + " of none", x.local(0, k), 0);
        }
    }

    /** "hook: .. an instance with that as receiver (context as if the instruction called it)": each by its own */
    private static void hooksByContexts() {
        String t = "class T extends Thread { method void run() { new A; pop; load 0; pop; return; } } ";
        for (int policy = 0; policy < 4; policy++) {
            ThreadJudge x = Judged.loaded(Judged.main(A + t, "new T; call void Runtime.hook(Thread); new T; call void Runtime.hook(Thread); new T; call void Runtime.hook(Thread); return;"));
            x.analyse(policy, 300);
            Judged.due("instances of run", x.reached(20, 0), policy == 1 || policy == 2 ? 3 : 1);
            x.begin();
            for (int k = 0; k < 60 && x.foreseen(); k++) {
                x.run(1, k);
            }
            Judged.yes("foreseen by " + policy, x.foreseen());
            Judged.due("ended", x.state(3, 0), 4);
        }
    }

    /** "find: .. the first of the class, what it extends, .. that has a method with lines of this name": not of the class that stands behind it */
    private static void foundInItsClassAlone() {
        String k = "class K { } class L { method void m() { return; } } class N { method void a() { return; } } class O { method void z() { return; } } ";
        for (String one : new String[] {"K m", "K a", "L a", "N z", "N m", "O main"}) {
            String[] words = one.split(" ");
            ThreadJudge x = of(Judged.main(k, found(words[0], words[1]) + "pop; return;"));
            same("find " + one, at(x, x.count(6) - 2, 10), "");
            x.begin();
            x.run(20, 0);
            Judged.due("ended by NoMethod: " + one, x.thing(x.count(18) - 1, 0), 15);
            Judged.due("site", x.thing(x.count(18) - 1, 1), 5015);
        }
        for (String one : new String[] {"L m 17", "N a 18", "O z 19", "Main main 20"}) {
            String[] words = one.split(" ");
            ThreadJudge x = of(Judged.main(k, found(words[0], words[1]) + "pop; return;"));
            same("find " + one, at(x, x.count(6) - 2, 10), "40" + words[2] + " ");
        }
    }
}
