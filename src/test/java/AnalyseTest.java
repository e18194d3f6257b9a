/** Promises 8 to 15: what may be, by four policies; threads, monitors, races, knots, waits, ways. */
public final class AnalyseTest {
    public static void main(String[] args) {
        policies();
        objectsAndFields();
        lambdas();
        thrown();
        natives();
        excluded();
        threads();
        beforeAndBehind();
        heldAndRaces();
        knots();
        waits();
        ways();
        wrongInputs();
        Judged.end();
    }

    private static ThreadJudge of(int policy, String text) {
        ThreadJudge x = Judged.loaded(text);
        x.analyse(policy, 300);
        return x;
    }

    private static final String BOX = "class Box { field Object o; method void set(Object) { load 0; load 1; put Box.o; return; } } "
        + Judged.main("", "new Box; store 1; new Box; store 2; load 1; new Object; virtual void Box.set(Object); load 2; new String; virtual void Box.set(Object); load 1; get Box.o; pop; return;");

    private static void policies() {
        ThreadJudge x = Judged.loaded(BOX);
        // Box.set is 17 (instructions 14 to 17), main 18 (from 18 on); sites 18, 20, 23, 26, and NullPointer
        int[] instances = {2, 3, 3, 2};
        int[] fields = {2, 1, 1, 2};
        for (int policy = 0; policy < 4; policy++) {
            Judged.due("analyse " + policy, x.analyse(policy, 300), instances[policy]);
            Judged.due("count(8)", x.count(8), instances[policy]);
            Judged.due("objects " + policy, x.count(9), 5);
            Judged.due("threads", x.count(10), 1);
            Judged.due("instructions", x.count(11), 14 + 4 * (instances[policy] - 1));
            Judged.due("first Box's o", x.field(0, 1, -1), fields[policy]);
            Judged.due("first Box's first o", x.field(0, 1, 0), 2);
            Judged.due("second Box's last o", x.field(1, 1, fields[policy] - 1), 3);
            Judged.due("of set", x.reached(17, 0), instances[policy] - 1);
            Judged.due("local 1 in set", x.holds(14, 1, -1), 2);
            Judged.due("local 0 in set", x.holds(14, 0, 1), 1);
            Judged.due("got", x.holds(30, 10, -1), fields[policy]);
            Judged.due("not degraded", x.count(16), 0);
        }
        Judged.due("too many", x.analyse(1, 2), 2);
        Judged.due("degraded", x.count(16), 1);
        Judged.due("first Box's o", x.field(0, 1, -1), 2);
        Judged.due("just enough", x.analyse(1, 3), 3);
        Judged.due("not degraded", x.count(16), 0);
        Judged.due("goes on", x.analyse(0, 1), 2);
        Judged.due("degraded all the same", x.count(16), 1);
        String text = "class F { method Object m() { new Object; give; } } class G extends F { method Object k() { new F; virtual Object F.m(); give; } } "
            + Judged.main("", "new F; virtual Object F.m(); pop; new G; virtual Object G.k(); pop; new G; virtual Object F.m(); pop; return;");
        // m 17 (14, 15), k 18 (16, 17, 18), main 19 from 19 on: sites F 19, G 22, G 25
        x = of(2, text);
        Judged.due("m by sites", x.reached(17, 0), 3);
        // objects: 14 in 16, in 19, in 25; 16 in 22; 19, 22, 25; NullPointer
        int[][] due = {{14, 16}, {14, 19}, {14, 25}, {16, 22}, {19, -1}, {22, -1}, {25, -1}, {5006, -1}};
        for (int o = 0; o < due.length; o++) {
            Judged.due("site " + o, x.object(o, 0), due[o][0]);
            Judged.due("context " + o, x.object(o, 1), due[o][1]);
        }
        x = of(3, text);
        // contexts are classes: sites 19, 22, 25 stand in Main (21), site 16 in G (20)
        Judged.due("m by classes", x.reached(17, 0), 2);
        int[][] three = {{14, 20}, {14, 21}, {16, 21}, {19, -1}, {22, -1}, {25, -1}, {5006, -1}};
        for (int o = 0; o < three.length; o++) {
            Judged.due("site " + o, x.object(o, 0), three[o][0]);
            Judged.due("context " + o, x.object(o, 1), three[o][1]);
        }
        x = of(1, text);
        Judged.due("m by calls", x.reached(17, 0), 3);
        Judged.due("one object of 14", x.object(1, 0), 16);
    }

    private static void objectsAndFields() {
        ThreadJudge x = of(0, Judged.main("class A { field A a; static field Object s; }",
            "push 2; array A; dup; push 0; new A; setelement; dup; push 0; element; dup; putstatic A.s; null; swap; pop; pop; putstatic A.s; push 1; array int; pop; string \"a\"; cast A; pop; string \"b\"; cast Object; store 1; L: load 1; new A; pop; pop; goto L;"
            .replace("string \"a\"; cast A; pop;", "string \"a\"; cast Object; cast A; pop;")));
        // sites: array 15, A 18, int[] 30-1.., strings 2000, 2001; thrown: NullPointer, Index, Cast, Store, Size
        Judged.due("site", x.object(0, 0), 15);
        Judged.due("type A[]", x.object(0, 2), -22);
        Judged.due("singular", x.object(0, 3), 1);
        Judged.due("escapes", x.object(0, 4), 1);
        Judged.due("elements", x.field(0, -1, -1), 1);
        Judged.due("element", x.field(0, -1, 0), 1);
        Judged.due("element escapes", x.object(1, 4), 1);
        Judged.due("static", x.field(0, 2, -1), 2);
        Judged.due("static of any", x.field(-5, 2, 1), 1);
        Judged.due("static of any", x.field(99, 2, 2), -1);
        Judged.due("int[]", x.object(2, 2), -2);
        Judged.due("int[] not escaping", x.object(2, 4), 0);
        Judged.due("int[] elements", x.field(2, -1, -1), 0);
        Judged.due("in a loop", x.object(3, 3), 0);
        Judged.due("string", x.object(4, 0), 2000);
        Judged.due("string is", x.object(4, 2), 2);
        Judged.due("string singular", x.object(4, 3), 1);
        Judged.due("second string", x.object(5, 0), 2001);
        Judged.due("NullPointer", x.object(6, 0), 5006);
        Judged.due("Index", x.object(7, 0), 5008);
        Judged.due("Cast", x.object(8, 0), 5009);
        Judged.due("Store", x.object(9, 0), 5010);
        Judged.due("Size", x.object(10, 0), 5011);
        Judged.due("Size not singular", x.object(10, 3), 0);
        Judged.due("all", x.count(9), 11);
        Judged.due("no what", x.object(0, 6), -1);
        Judged.due("no object", x.object(11, 0), -1);
        Judged.due("field of array", x.field(0, 1, -1), 0);
        Judged.due("field of array 0", x.field(0, 1, 0), -1);
        Judged.due("field of no object", x.field(11, 1, -1), -1);
        Judged.due("no field", x.field(0, 3, -1), -1);
        Judged.due("no field -8", x.field(0, -8, -1), -1);
        Judged.due("field -7", x.field(0, -7, -1), 0);
        Judged.due("k -2", x.field(0, -1, -2), -1);
    }

    private static void lambdas() {
        ThreadJudge x = of(2, Judged.main("interface F { abstract method Object f(Object); method Object g() { load 0; null; virtual Object F.f(Object); give; } } class C { static method Object l(Object, Object) { load 0; give; } }",
            "new Object; lambda F Object C.l(Object, Object); dup; new String; virtual Object F.f(Object); pop; virtual Object F.g(); pop; return;"));
        // g 18 (14..17), l 19 (18, 19), main 20: Object 20, lambda 21, String 23, f 24, g 26
        Judged.due("site", x.object(1, 0), 21);
        Judged.due("is of", x.object(1, 2), 19);
        Judged.due("has", x.field(1, -2, -1), 1);
        Judged.due("has", x.field(1, -2, 0), 0);
        Judged.due("has no second", x.field(1, -3, -1), 0);
        Judged.due("no elements", x.field(1, -1, -1), 0);
        // l has contexts of its callers: main's, and g's, which is the receiver's site
        Judged.due("instances of l", x.reached(19, 0), 2);
        Judged.due("local 0 of l", x.holds(18, 0, -1), 1);
        Judged.due("local 1 of l", x.holds(18, 1, -1), 1);
        Judged.due("given by f", x.holds(25, 10, 0), 1);
        Judged.due("given by f too", x.holds(25, 11, 0), 0);
        Judged.due("calls of f", x.calls(24, false, -1), 1);
        Judged.due("calls of f", x.calls(24, false, 0), 19);
        Judged.due("calls in g", x.calls(16, false, 0), 19);
    }

    private static void thrown() {
        ThreadJudge x = of(0, Judged.main("class E extends Throwable { } class C { static field int n; static method void <clinit>() { new E; throw; } static method void m() { push 1; getstatic C.n; div; pop; new Cast; throw; } }",
            "A: call void C.m(); B: return; H: pop; return; J: pop; return; catch Cast A B H; catch Arithmetic A B J; catch Throwable A B H;"));
        // <clinit> 17 (14, 15), m 18 (16..21), main 19: call 22, return 23, H 24, 25, J 26, 27
        Judged.due("at H", x.holds(24, 10, -1), 3);
        Judged.due("at J", x.holds(26, 10, -1), 1);
        Judged.due("at J Arithmetic", x.object(x.holds(26, 10, 0), 0), 5007);
        Judged.due("E of 14", x.object(x.holds(24, 10, 0), 0), 14);
        Judged.due("Cast of 20", x.object(x.holds(24, 10, 1), 0), 20);
        Judged.due("NullPointer of throw", x.object(x.holds(24, 10, 2), 0), 5006);
        Judged.due("begins", x.begins(20), 1);
        Judged.due("E begins", x.begins(19), 1);
        Judged.due("Throwable begins", x.begins(5), 1);
        Judged.due("Arithmetic does not", x.begins(7), 0);
        Judged.due("calls", x.calls(22, false, -1), 2);
        Judged.due("calls clinit", x.calls(22, false, 0), 17);
        Judged.due("calls m", x.calls(22, false, 1), 18);
        Judged.due("calls in m", x.calls(17, false, 0), 17);
        Judged.due("once", x.reached(17, 1), 1);
        Judged.due("once m", x.reached(18, 1), 1);
    }

    private static void natives() {
        ThreadJudge x = of(2, Judged.main("class P { static field int z; static method void <clinit>() { return; } method void <init>() { return; } method Object hi() { load 0; give; } static method void st() { return; } } abstract class Q { }",
            "string \"P\"; call Class Class.named(String); dup; virtual Object Class.newInstance(); store 1; dup; string \"hi\"; virtual Method Class.find(String); load 1; virtual Object Method.invoke(Object); store 2; string \"st\"; virtual Method Class.find(String); null; virtual Object Method.invoke(Object); pop; string \"Q\"; call Class Class.named(String); virtual Object Class.newInstance(); pop; return;"));
        // P: clinit 17, init 18, hi 19, st 20; main 21 from 14+1+1+2+1 = 19 on
        int first = x.method(21, 3);
        Judged.due("first", first, 19);
        Judged.due("CLASS P", x.object(x.holds(first + 2, 10, 0), 0), 3019);
        Judged.due("instance", x.object(x.holds(first + 4, 11, 0), 0), 6019);
        Judged.due("instance is a P", x.object(x.holds(first + 4, 11, 0), 2), 19);
        Judged.due("made in main", x.object(x.holds(first + 4, 11, 0), 1), -1);
        Judged.due("not singular", x.object(x.holds(first + 4, 11, 0), 3), 0);
        Judged.due("init", x.reached(18, 0), 1);
        Judged.due("METHOD", x.object(x.holds(first + 8, 11, 0), 0), 4019);
        Judged.due("METHOD singular", x.object(x.holds(first + 8, 11, 0), 3), 1);
        Judged.due("given", x.object(x.holds(first + 10, 11, 0), 0), 6019);
        Judged.due("hi", x.calls(first + 9, false, 0), 19);
        Judged.due("st", x.reached(20, 0), 1);
        Judged.due("named lets begin", x.calls(first + 1, false, 0), 17);
        Judged.due("Q begins", x.begins(20), 1);
        Judged.due("no instance of Q", x.holds(first + 19, 10, -1), 0);
        Judged.due("Runtime", x.begins(18), 0);
        x = of(1, Judged.main("class T extends Thread { method void run() { new Cast; throw; } method void uncaught(Throwable) { return; } }",
            "new T; dup; call void Runtime.hook(Thread); virtual void Thread.start(); return;"));
        int m = x.method(19, 3);
        Judged.due("started by hook", x.calls(m + 2, true, -1), 2);
        Judged.due("run", x.calls(m + 2, true, 0), 17);
        Judged.due("uncaught", x.calls(m + 3, true, 1), 18);
        Judged.due("not called", x.calls(m + 3, false, -1), 0);
        Judged.due("by two instructions", x.reached(17, 0), 2);
        Judged.due("not once", x.reached(17, 1), 0);
        Judged.due("let go", x.holds(x.method(18, 3), 1, -1), 2);
        Judged.due("one thread", x.count(10), 2);
    }

    private static void excluded() {
        ThreadJudge x = of(0, "excluded class E extends Thread { field int n; static method void <clinit>() { return; } method void run() { return; } static method void s() { return; } } excluded class N { static field int a; } class D extends E { } "
            + Judged.main("", "new N; pop; new E; dup; get E.n; pop; virtual void Thread.start(); call void E.s(); new D; pop; getstatic N.a; pop; return;"));
        int m = x.method(20, 3);
        Judged.due("unresolved", x.count(15), 4);
        Judged.due("new", x.unresolved(0), m + 2);
        Judged.due("start", x.unresolved(1), m + 6);
        Judged.due("call", x.unresolved(2), m + 7);
        Judged.due("what extends it", x.unresolved(3), m + 8);
        Judged.due("no more", x.unresolved(4), -1);
        Judged.due("no -1", x.unresolved(-1), -1);
        Judged.due("begins", x.begins(19), 1);
        Judged.due("no clinit", x.reached(17, 0), 0);
        Judged.due("clinit is once", x.reached(17, 1), 1);
        Judged.due("no calls", x.calls(m + 7, false, -1), 0);
        Judged.due("uncaught is started", x.calls(m + 6, true, 0), 12);
        Judged.due("only", x.calls(m + 6, true, -1), 1);
        Judged.due("a thread all the same", x.count(10), 2);
    }

    private static void threads() {
        ThreadJudge x = of(0, Judged.main("class C { static field int n; static method void <clinit>() { return; } static method void w() { getstatic C.n; pop; return; } }",
            "new Thread; dup; lambda Runnable void C.w(); special void Thread.<init>(Runnable); virtual void Thread.start(); L: new Thread; virtual void Thread.start(); goto L;"));
        int m = x.method(19, 3);
        Judged.due("threads", x.count(10), 3);
        Judged.due("thread 0's object", x.thread(0, 0), -1);
        Judged.due("thread 0 single", x.thread(0, 1), 1);
        Judged.due("thread 0 runs", x.thread(0, 2), 2);
        Judged.due("thread 1's object", x.thread(1, 0), 0);
        Judged.due("thread 1 single", x.thread(1, 1), 1);
        Judged.due("thread 1 runs", x.thread(1, 2), 4);
        Judged.due("thread 2 not single", x.thread(2, 1), 0);
        Judged.due("object is a thread", x.object(0, 5), 1);
        Judged.due("no what", x.thread(0, 3), -1);
        Judged.due("no thread", x.thread(3, 0), -1);
        Judged.due("w with itself", x.parallel(15, 15), 1);
        Judged.due("w with main behind start", x.parallel(15, m + 5), 1);
        Judged.due("w with main before start", x.parallel(15, m), 0);
        Judged.due("start with w", x.parallel(m + 4, 15), 0);
        Judged.due("main with itself", x.parallel(m, m), 0);
        Judged.due("not come to", x.parallel(m, x.count(6)), -1);
    }

    private static void beforeAndBehind() {
        String t = "class T extends Thread { method void run() { call void T.w(); return; } static method void w() { getstatic Main.n; push 1; add; putstatic Main.n; return; } } ";
        String head = t + "class Main { static field int n; static method void main() { new T; store 1; ";
        ThreadJudge x = of(0, head + "call void T.w(); load 1; virtual void Thread.start(); load 1; virtual void Thread.join(); call void T.w(); return; } }");
        // run 17 (14, 15), w 18 (16..20), main 19 from 21: new, store, call 23, load, start 25, load, join 27, call 28
        // w in thread 0 has the tops 23 (before) and 28 (behind): neither all before nor all behind
        Judged.due("mixed tops", x.count(12), 2);
        Judged.due("read with write", x.race(0, 0), 16);
        Judged.due("read with write", x.race(0, 1), 19);
        Judged.due("write with write", x.race(1, 0), 19);
        Judged.due("field", x.race(1, 2), 1);
        Judged.due("no what", x.race(1, 3), -1);
        Judged.due("no race", x.race(2, 0), -1);
        x = of(0, head + "call void T.w(); load 1; virtual void Thread.start(); load 1; virtual void Thread.join(); return; } }");
        Judged.due("before", x.count(12), 0);
        x = of(0, head + "load 1; virtual void Thread.start(); load 1; virtual void Thread.join(); call void T.w(); return; } }");
        Judged.due("behind", x.count(12), 0);
        x = of(0, head + "load 1; virtual void Thread.start(); getstatic Main.n; ifeq L; load 1; virtual void Thread.join(); L: call void T.w(); return; } }");
        Judged.yes("join may be passed by", x.count(12) > 0);
        x = of(0, head + "load 1; virtual void Thread.start(); A: load 1; virtual void Thread.join(); B: call void T.w(); H: return; catch Throwable A B J; J: pop; return; } }");
        Judged.yes("join in a catch", x.count(12) > 0);
        x = of(0, head + "load 1; virtual void Thread.start(); load 1; virtual void Thread.join(); call void T.w(); getstatic Main.n; ifeq L; call void Main.main(); L: return; } }");
        Judged.yes("main not once", x.count(12) > 0);
        x = of(0, t + "class Main { static field int n; static method void <clinit>() { call void T.w(); return; } static method void main() { new T; virtual void Thread.start(); return; } }");
        Judged.due("the beginning is before", x.count(12), 0);
        x = of(0, t + "class Main { static field int n; static field Thread t; static method void go() { getstatic Main.t; virtual void Thread.start(); return; } static method void main() { new T; putstatic Main.t; call void T.w(); call void Main.go(); return; } }");
        Judged.yes("started elsewhere", x.count(12) > 0);
        x = of(0, head + "load 1; call void Runtime.hook(Thread); call void T.w(); return; } }");
        Judged.yes("hook starts", x.count(12) > 0);
    }

    private static void heldAndRaces() {
        String lock = "final static field Object l; static field int n; static volatile field int v; static final field int f; static method void <clinit>() { new Object; putstatic Main.l; return; } ";
        ThreadJudge x = of(0, "class T extends Thread { method void run() { call void Main.w(); getstatic Main.v; pop; getstatic Main.f; pop; return; } } class Main { " + lock
            + "static method void w() { getstatic Main.l; store 1; load 1; enter; getstatic Main.n; push 1; add; putstatic Main.n; call void Main.u(); load 1; exit; return; } static method void u() { push 2; putstatic Main.n; return; } "
            + "static method void main() { new T; virtual void Thread.start(); call void Main.w(); push 1; putstatic Main.v; return; } }");
        int w = x.method(19, 3);
        int u = x.method(20, 3);
        Judged.due("no race", x.count(12), 0);
        Judged.due("surely held", x.held(w + 4, true, -1), 1);
        Judged.due("surely held", x.object(x.held(w + 4, true, 0), 0), x.method(18, 3));
        Judged.due("at 53 not yet", x.held(w + 3, true, -1), 0);
        Judged.due("at 54 still", x.held(w + 10, true, -1), 1);
        Judged.due("behind 54", x.held(w + 11, true, -1), 0);
        Judged.due("in u", x.held(u, true, -1), 1);
        Judged.due("may be in u", x.held(u, false, -1), 1);
        x = of(0, "class T extends Thread { method void run() { call void Main.u(); return; } } class Main { " + lock
            + "synchronized static method void u() { getstatic Main.n; push 2; putstatic Main.n; pop; return; } static method void main() { new T; virtual void Thread.start(); call void Main.u(); return; } }");
        Judged.due("no race", x.count(12), 0);
        Judged.due("the CLASS", x.object(x.held(x.method(19, 3), true, 0), 0), 3020);
        x = of(0, "class T extends Thread { field int n; synchronized method void run() { load 0; load 0; get T.n; push 1; add; put T.n; return; } } class Main { static method void main() { L: new T; dup; virtual void Thread.start(); get T.n; pop; goto L; } }");
        // the lock is no one singular object: nothing is surely held
        Judged.due("races", x.count(12), 3);
        Judged.due("surely", x.held(14, true, -1), 0);
        Judged.due("maybe", x.held(14, false, -1), 1);
        Judged.due("no instances", of(0, Judged.main("class C { static method void m() { new Object; enter; null; exit; return; } }", "return;")).held(16, true, -1), 0);
        x = of(0, Judged.main("class T extends Thread { method void run() { getstatic Main.r; push 0; element; pop; return; } }", "return;").replace("main() { ", "main() { push 1; array Object; dup; putstatic Main.r; new T; virtual void Thread.start(); push 0; null; setelement; ").replace("class Main {", "class Main { static field Object[] r;"));
        Judged.due("elements", x.count(12), 1);
        Judged.due("elements", x.race(0, 2), -1);
    }

    private static void knots() {
        String ab = "class Main { static field Object a; static field Object b; static method void one() { getstatic Main.a; enter; getstatic Main.b; enter; getstatic Main.b; exit; getstatic Main.a; exit; return; } static method void two() { getstatic Main.b; enter; getstatic Main.a; enter; getstatic Main.a; exit; getstatic Main.b; exit; return; } static method void main() { new Object; putstatic Main.a; new Object; putstatic Main.b; ";
        ThreadJudge x = of(0, ab + "call void Main.one(); call void Main.two(); return; } }");
        Judged.due("one thread, no knot", x.count(13), 0);
        x = of(0, ab + "new Thread; virtual void Thread.start(); call void Main.one(); call void Main.two(); return; } }");
        Judged.due("knots", x.count(13), 2);
        Judged.due("instruction", x.knot(0, 0), 17);
        Judged.due("held", x.knot(0, 1), 0);
        Judged.due("wanted", x.knot(0, 2), 1);
        Judged.due("second", x.knot(1, 0), 26);
        Judged.due("no what", x.knot(0, 3), -1);
        Judged.due("no knot", x.knot(2, 0), -1);
        x = of(0, ab + "new Thread; virtual void Thread.start(); call void Main.one(); return; } }");
        Judged.due("one order", x.count(13), 0);
        // an object of many things ties with itself; a singular one does not
        String many = "class L { synchronized method void m(L) { load 1; virtual void L.n(); return; } synchronized method void n() { return; } } class Main { static method void main() { new Thread; virtual void Thread.start(); ";
        x = of(0, many + "P: new L; store 1; load 1; load 1; virtual void L.m(L); goto P; } }");
        Judged.due("many", x.count(13), 1);
        Judged.due("many", x.knot(0, 0), 15);
        x = of(0, many + "new L; store 1; load 1; load 1; virtual void L.m(L); return; } }");
        Judged.due("singular", x.count(13), 0);
    }

    private static void waits() {
        ThreadJudge x = of(0, Judged.main("class C { static field Object o; synchronized method void m() { load 0; virtual void Object.wait(); return; } }",
            "new Object; store 1; load 1; virtual void Object.wait(); load 1; enter; L: load 1; virtual void Object.wait(); getstatic C.o; ifnull L; load 1; virtual void Object.wait(); load 1; exit; new C; virtual void C.m(); M: new C; virtual void Object.wait(); goto M;"));
        int m = x.method(18, 3);
        Judged.due("waits", x.count(14), 4);
        Judged.due("in m", x.waits(0, 0), 15);
        Judged.due("in m rash", x.waits(0, 1), 2);
        Judged.due("not held", x.waits(1, 0), m + 3);
        Judged.due("not held: both", x.waits(1, 1), 3);
        Judged.due("no loop", x.waits(2, 0), m + 11);
        Judged.due("rash", x.waits(2, 1), 2);
        Judged.due("in a loop", x.waits(3, 1), 1);
        Judged.due("no what", x.waits(0, 2), -1);
        Judged.due("no more", x.waits(4, 0), -1);
    }

    private static void ways() {
        ThreadJudge x = of(0, Judged.main("class C { static field int n; static method void <clinit>() { call void D.d(); return; } static method void a() { call void D.d(); return; } } class D { static method void d() { return; } static method void e() { return; } } class T extends Thread { method void run() { call void D.d(); return; } }",
            "new T; virtual void Thread.start(); call void D.d(); call void C.a(); return;"));
        // clinit 17, a 18, d 19, e 20, run 21, main 22
        int m = x.method(22, 3);
        Judged.due("to main", x.way(22, -1), 0);
        Judged.due("to main 0", x.way(22, 0), -1);
        Judged.due("to d", x.way(19, -1), 1);
        Judged.due("to d", x.way(19, 0), m + 2);
        Judged.due("to clinit", x.way(17, 0), m + 3);
        Judged.due("to run", x.way(21, 0), m + 1);
        Judged.due("to uncaught", x.way(12, 0), m + 1);
        Judged.due("to e", x.way(20, -1), -1);
        Judged.due("to native", x.way(13, -1), -1);
        Judged.due("k 1", x.way(19, 1), -1);
        Judged.due("k -2", x.way(19, -2), -1);
        Judged.due("no method", x.way(23, -1), -1);
        x = of(0, Judged.main("class A { static method void a() { call void A.c(); call void A.b(); return; } static method void b() { call void A.z(); return; } static method void c() { call void A.z(); return; } static method void z() { return; } }", "call void A.a(); return;"));
        Judged.due("length", x.way(20, -1), 3);
        Judged.due("first", x.way(20, 0), x.method(21, 3));
        Judged.due("second", x.way(20, 1), 14);
        Judged.due("third", x.way(20, 2), 19);
        Judged.due("no fourth", x.way(20, 3), -1);
    }

    private static void wrongInputs() {
        ThreadJudge x = Judged.loaded(BOX);
        Judged.due("not analysed", x.holds(14, 0, 0), -1);
        Judged.due("not analysed", x.calls(14, false, -1), -1);
        Judged.due("not analysed", x.begins(0), -1);
        Judged.due("policy 4", x.analyse(4, 10), -1);
        Judged.due("policy -1", x.analyse(-1, 10), -1);
        Judged.due("granted 0", x.analyse(0, 0), -1);
        Judged.due("granted 301", x.analyse(0, 301), -1);
        x.analyse(0, 300);
        x.begin();
        Judged.due("changes nothing", x.analyse(4, 10), -1);
        Judged.due("the run goes on", x.step(0), 1);
        Judged.due("analysed", x.count(8), 2);
        x.analyse(0, 300);
        Judged.due("the run is gone", x.step(0), -1);
        Judged.due("holds", x.holds(14, 10, -1), -1);
        Judged.due("holds", x.holds(14, -1, -1), -1);
        Judged.due("holds", x.holds(14, 0, -1), 2);
        Judged.due("holds", x.holds(14, 0, 2), -1);
        Judged.due("holds", x.holds(14, 0, -2), -1);
        Judged.due("holds", x.holds(99, 0, -1), -1);
        Judged.due("calls", x.calls(99, false, -1), -1);
        Judged.due("calls", x.calls(21, false, 5), -1);
        Judged.due("reached", x.reached(17, 2), -1);
        Judged.due("reached", x.reached(19, 0), -1);
        Judged.due("begins", x.begins(21), -1);
        Judged.due("begins", x.begins(-1), -1);
        Judged.due("held", x.held(99, true, -1), -1);
        Judged.due("held", x.held(14, true, 0), -1);
        Judged.due("race", x.race(0, 0), -1);
        Judged.due("race", x.race(-1, 0), -1);
    }
}
