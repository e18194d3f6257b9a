/** Promises 17 to 21: the machine: steps, frames, monitors, threads, classes that begin, clashes, deadlocks. */
public final class MachineTest {
    public static void main(String[] args) {
        numbers();
        stateAndLocals();
        things();
        machineThrows();
        classesBegin();
        classesBeginAheadOfLocks();
        monitors();
        waiting();
        threads();
        hooks();
        reflection();
        full();
        clashes();
        deadlock();
        draws();
        lastFrame();
        wrongInputs();
        Judged.end();
    }

    private static ThreadJudge begun(String text) {
        ThreadJudge x = Judged.loaded(text);
        Judged.yes("begin", x.begin());
        return x;
    }

    private static void says(String classes, String lines, int... due) {
        ThreadJudge x = begun(Judged.main(classes, lines));
        x.run(2000, 1);
        Judged.due("how many said by " + lines, x.count(20), due.length);
        for (int k = 0; k < due.length; k++) {
            Judged.due("said " + k + " by " + lines, x.said(k), due[k]);
        }
        Judged.due("ended " + lines, x.state(0, 0), 4);
    }

    private static final String P = " call void Out.print(int); ";

    private static void numbers() {
        says("", "push 7; push -2; div;" + P + "push -7; push 2; rem;" + P + "push -2147483648; push -1; div;" + P
            + "push -2147483648; push -1; rem;" + P + "push 2147483647; push 1; add;" + P + "push 65536; push 65536; mul;" + P
            + "push -8; push 33; shr;" + P + "push 3; push -1; shl;" + P + "push 5; neg;" + P + "push 12; push 10; xor;" + P
            + "push 12; push 10; and;" + P + "push 12; push 10; or;" + P + "push 3; push 5; sub;" + P + "return;",
            -3, -1, -2147483648, 0, -2147483648, 0, -4, -2147483648, -5, 6, 8, 14, -2);
        says("", "push 1; push 2; under;" + P + P + P + "push 1; push 2; swap;" + P + P + "push 4; dup; add;" + P + "push 5; store 3; inc 3 -7; load 3;" + P + "return;",
            2, 1, 2, 1, 2, 8, -2);
        String[] jumps = {"ifeq", "ifne", "iflt", "ifge", "ifgt", "ifle"};
        String[] compares = {"cmpeq", "cmpne", "cmplt", "cmpge", "cmpgt", "cmple"};
        int[][] due = {{0, 1, 0}, {1, 0, 1}, {1, 0, 0}, {0, 1, 1}, {0, 0, 1}, {1, 1, 0}};
        for (int k = 0; k < 6; k++) {
            for (int v = -1; v <= 1; v++) {
                says("", "push " + v + "; " + jumps[k] + " L; push 0;" + P + "return; L: push 1;" + P + "return;", due[k][v + 1]);
                says("", "push " + v + "; push 0; " + compares[k] + " L; push 0;" + P + "return; L: push 1;" + P + "return;", due[k][v + 1]);
            }
        }
        says("", "new Main; dup; same A; return; A: push 1;" + P + "null; new Main; other B; return; B: push 2;" + P
            + "null; ifnull C; return; C: null; ifsome D; new Main; ifsome E; D: return; E: push 3;" + P + "return;", 1, 2, 3);
    }

    private static void stateAndLocals() {
        ThreadJudge x = begun(Judged.main("class A { static method int m(A, int) { load 1; give; } }", "new A; store 2; load 2; push -9; call int A.m(A, int); pop; null; return;"));
        int first = x.method(18, 3);
        Judged.due("frames", x.state(0, 1), 1);
        Judged.due("instruction", x.state(0, 2), first);
        Judged.due("method", x.state(0, 3), 18);
        Judged.due("no thing", x.state(0, 4), -1);
        Judged.due("never set", x.local(0, 5), 0);
        Judged.due("no stack", x.local(0, 10), -1);
        Judged.due("step", x.step(0), 1);
        Judged.due("a thing", x.local(0, 10), 0);
        x.step(0);
        x.step(0);
        x.step(0);
        Judged.due("a number", x.local(0, 11), -9);
        Judged.due("call", x.step(0), 1);
        Judged.due("frames", x.state(0, 1), 2);
        Judged.due("instruction", x.state(0, 2), 14);
        Judged.due("method", x.state(0, 3), 17);
        Judged.due("its local 0", x.local(0, 0), 0);
        Judged.due("its local 1", x.local(0, 1), -9);
        Judged.due("its local 2", x.local(0, 2), 0);
        Judged.due("stack is empty", x.local(0, 10), -1);
        x.step(0);
        x.step(0);
        Judged.due("given", x.local(0, 10), -9);
        x.step(0);
        x.step(0);
        Judged.due("null", x.local(0, 10), -1);
        Judged.due("last", x.step(0), 1);
        Judged.due("ended", x.step(0), 0);
        Judged.due("no frames", x.state(0, 1), 0);
        Judged.due("no instruction", x.state(0, 2), -1);
        Judged.due("no method", x.state(0, 3), -1);
        Judged.due("no local", x.local(0, 0), -1);
        Judged.due("ended", x.state(0, 0), 4);
        Judged.due("steps", x.count(17), 10);
    }

    private static void things() {
        ThreadJudge x = begun(Judged.main("class A { field int n; field A a; static field int s; static field A t; } class B extends A { field B b; }",
            "new B; dup; push 7; put A.n; dup; dup; put A.a; putstatic A.t; push 3; array A; dup; push 2; getstatic A.t; setelement; push 2; array int; dup; push 1; push 5; setelement; string \"a\"; string \"a\"; string \"b\"; pop; pop; pop; lambda Runnable void Main.main(); pop; return;"));
        x.run(100, 1);
        Judged.due("things", x.count(18), 6);
        int m = x.method(17, 3);
        int[][] due = {{20, m, 0}, {-22, m + 9, 3}, {-2, m + 15, 2}, {2, 2000, 0}, {2, 2001, 0}, {1, m + 26, 0}};
        for (int n = 0; n < due.length; n++) {
            Judged.due("class of " + n, x.thing(n, 0), due[n][0]);
            Judged.due("site of " + n, x.thing(n, 1), due[n][1]);
            Judged.due("length of " + n, x.thing(n, 2), due[n][2]);
            Judged.due("entered " + n, x.thing(n, 3), 0);
            Judged.due("by " + n, x.thing(n, 4), -1);
        }
        Judged.due("n", x.value(0, 1), 7);
        Judged.due("a", x.value(0, 2), 0);
        Judged.due("b is null", x.value(0, 5), -1);
        Judged.due("s", x.value(77, 3), 0);
        Judged.due("t", x.value(-1, 4), 0);
        Judged.due("no such field", x.value(1, 1), -1);
        Judged.due("a lambda has none", x.value(5, 1), -1);
        Judged.due("elements", x.value(1, -3), 0);
        Judged.due("element null", x.value(1, -1), -1);
        Judged.due("no element", x.value(1, -4), -1);
        Judged.due("numbers", x.value(2, -1), 0);
        Judged.due("numbers", x.value(2, -2), 5);
        Judged.due("no element of a B", x.value(0, -1), -1);
        Judged.due("no field 6", x.value(0, 6), -1);
        Judged.due("no thing", x.value(6, 1), -1);
        Judged.due("least number", x.value(1, Integer.MIN_VALUE), -1);
        Judged.due("no what", x.thing(0, 5), -1);
        Judged.due("no thing", x.thing(6, 0), -1);
    }

    private static void raises(String classes, String lines, int type) {
        ThreadJudge x = begun(Judged.main(classes, "push -5; store 9; A: " + lines + " B: return; H: store 9; return; catch Throwable A B H;"));
        int k = 0;
        for (; k < 100 && (x.count(17) < 2 || x.local(0, 9) == -5); k++) {
            x.step(0);
        }
        int last = x.count(18) - 1;
        Judged.due("raised by " + lines, x.thing(last, 0), type);
        Judged.due("site of " + lines, x.thing(last, 1), 5000 + type);
        Judged.due("at hand by " + lines, x.local(0, 9), last);
    }

    private static void machineThrows() {
        String c = "class A { field int n; method void m() { return; } } class B { } abstract class Ab { abstract method void v(); } class Co extends Ab { }";
        raises(c, "push 1; push 0; div; pop;", 7);
        raises(c, "push 1; push 0; rem; pop;", 7);
        raises(c, "null; get A.n; pop;", 6);
        raises(c, "null; push 1; put A.n;", 6);
        raises(c, "null; virtual void A.m();", 6);
        raises(c, "null; push 1; element; pop;", 6);
        raises(c, "null; push 1; null; setelement;", 6);
        raises(c, "null; length; pop;", 6);
        raises(c, "null; throw;", 6);
        raises(c, "push 2; array A; push 2; element; pop;", 8);
        raises(c, "push 2; array A; push -1; element; pop;", 8);
        raises(c, "push 2; array A; push 2; new B; setelement;", 8);
        raises(c, "push 2; array A; push 1; new B; setelement;", 10);
        raises(c, "push -1; array A; pop;", 11);
        raises(c, "push 17; array int; pop;", 11);
        raises(c, "new B; cast A; pop;", 9);
        raises(c, "push 1; array B; cast A[]; pop;", 9);
        raises(c, "new Co; virtual void Ab.v();", 15);
        raises(c, "new B; virtual void Object.wait();", 12);
        raises(c, "new B; virtual void Object.notify();", 12);
        raises(c, "new B; virtual void Object.notifyAll();", 12);
        raises(c, "null; call void Runtime.hook(Thread);", 6);
        raises(c, "null; call Class Class.named(String); pop;", 6);
        raises(c, "string \"Q\"; call Class Class.named(String); pop;", 14);
        raises(c, "new String; call Class Class.named(String); pop;", 14);
        raises(c, "new Class; virtual Object Class.newInstance(); pop;", 14);
        raises(c, "string \"Ab\"; call Class Class.named(String); virtual Object Class.newInstance(); pop;", 14);
        raises(c, "string \"Runnable\"; call Class Class.named(String); virtual Object Class.newInstance(); pop;", 14);
        raises(c, "new Class; null; virtual Method Class.find(String); pop;", 6);
        raises(c, "new Class; string \"m\"; virtual Method Class.find(String); pop;", 15);
        raises(c, "string \"A\"; call Class Class.named(String); new String; virtual Method Class.find(String); pop;", 15);
        raises(c, "string \"A\"; call Class Class.named(String); string \"<init>\"; virtual Method Class.find(String); pop;", 15);
        raises(c, "string \"Ab\"; call Class Class.named(String); string \"v\"; virtual Method Class.find(String); pop;", 15);
        raises(c, "new Method; null; virtual Object Method.invoke(Object); pop;", 9);
        raises(c, "string \"A\"; call Class Class.named(String); string \"m\"; virtual Method Class.find(String); null; virtual Object Method.invoke(Object); pop;", 6);
        raises(c, "string \"A\"; call Class Class.named(String); string \"m\"; virtual Method Class.find(String); new B; virtual Object Method.invoke(Object); pop;", 9);
        says(c, "null; cast A; ifnull L; return; L: null; is A;" + P + "new A; is Object;" + P + "new A; is B;" + P + "push 1; array A; is Object[];" + P + "push 16; array int; length;" + P + "return;", 0, 1, 0, 1, 16);
        // what is thrown goes through frames and their monitors
        ThreadJudge x = begun(Judged.main("class C { static synchronized method void m() { new C; enter; new C; enter; new State; throw; } }",
            "A: call void C.m(); B: return; H: pop; return; K: pop; push 5;" + P + "return; catch Cast A B H; catch State A B K; catch Throwable A B H;"));
        for (int k = 0; k < 6; k++) {
            x.step(0);
        }
        Judged.due("CLASS entered", x.thing(0, 3), 1);
        Judged.due("CLASS site", x.thing(0, 1), 3019);
        Judged.due("second entered", x.thing(2, 4), 0);
        x.step(0);
        for (int n = 0; n < 4; n++) {
            Judged.due("let go " + n, x.thing(n, 3), 0);
            Judged.due("let go " + n, x.thing(n, 4), -1);
        }
        Judged.due("at K's first", x.state(0, 2), x.method(18, 3) + 4);
        x.run(10, 1);
        Judged.due("said", x.said(0), 5);
        x = begun(Judged.main("", "new Cast; throw;"));
        x.run(10, 1);
        Judged.due("the thread ends", x.state(0, 0), 4);
    }

    private static void classesBegin() {
        says("class A { static field int n; static method void <clinit>() { push 1;" + P + "return; } } class B extends A { static field int m; static method void <clinit>() { push 2;" + P + "return; } } class C extends B { }",
            "push 0;" + P + "new C; pop; push 3;" + P + "getstatic A.n; pop; new B; pop; push 4;" + P + "return;", 0, 1, 2, 3, 4);
        says("class A { static field int n; static method void <clinit>() { push 1;" + P + "new Cast; throw; } } class B extends A { static method void <clinit>() { push 2;" + P + "return; } }",
            "X: new B; pop; Y: return; H: is Cast;" + P + "new B; pop; push 9;" + P + "return; catch Throwable X Y H;", 1, 1, 9);
        // MAIN's class begins first; what that lets go ends the thread
        says("", "return;");
        ThreadJudge x = begun("class A { static method void <clinit>() { push 1;" + P + "return; } } class Main extends A { static method void <clinit>() { push 2;" + P + "return; } static method void main() { push 3;" + P + "return; } }");
        Judged.due("frames", x.state(0, 1), 3);
        Judged.due("A's clinit", x.state(0, 3), 17);
        Judged.due("began, those at their beginning too", x.count(23), 3);
        x.run(3, 1);
        Judged.due("Main's clinit", x.state(0, 3), 18);
        Judged.due("began", x.count(23), 4);
        x.run(100, 1);
        Judged.due("said", x.said(0) * 100 + x.said(1) * 10 + x.said(2), 123);
        x = begun("class Main { static method void <clinit>() { new Cast; throw; } static method void main() { push 3;" + P + "return; } }");
        x.run(100, 1);
        Judged.due("ended", x.state(0, 0), 4);
        Judged.due("nothing said", x.count(20), 0);
        Judged.due("began, each once", x.count(23), 4);
        // another thread waits for the class
        x = begun(Judged.main("class T extends Thread { method void run() { getstatic C.n; pop; return; } } class C { static field int n; static method void <clinit>() { push 1; putstatic C.n; return; } }",
            "new T; virtual void Thread.start(); getstatic C.n; pop; return;"));
        x.step(0);
        x.step(0);
        Judged.due("began: Main, Object, T, Thread", x.count(23), 4);
        Judged.due("frames come", x.step(0), 1);
        Judged.due("frames", x.state(0, 1), 2);
        Judged.due("C began by that step", x.count(23), 5);
        Judged.due("waits for a class", x.state(1, 0), 3);
        Judged.due("waits for no thing", x.state(1, 4), -1);
        Judged.due("does nothing", x.step(1), 0);
        x.step(0);
        x.step(0);
        Judged.due("still", x.step(1), 0);
        Judged.due("clinit ends", x.step(0), 1);
        Judged.due("goes on", x.step(1), 1);
        Judged.due("done anew", x.state(0, 2), x.method(19, 3) + 2);
        x.run(20, 1);
        Judged.due("all ended", x.state(0, 0) * 10 + x.state(1, 0), 44);
    }

    /** A lambda lets no class begin: the LOCK of a class can be taken before the class begins. */
    private static void classesBeginAheadOfLocks() {
        String classes = "class C { @ static synchronized method void m() { a: goto a; } static synchronized method void n() { return; } }";
        String lines = "new Thread; dup; lambda Runnable void C.m(); special void Thread.<init>(Runnable); virtual void Thread.start(); call void C.n(); return;";
        ThreadJudge x = begun(Judged.main(classes.replace("@", "static method void <clinit>() { return; }"), lines));
        takeLock(x);
        Judged.due("C begins ahead of the LOCK", x.state(0, 0), 0);
        Judged.due("its clinit's frame comes", x.step(0), 1);
        Judged.due("frames", x.state(0, 1), 2);
        Judged.due("began", x.count(23), 4);
        x.step(0);
        Judged.due("has begun: waits for the LOCK", x.state(0, 0), 1);
        Judged.due("of the CLASS", x.state(0, 4), 2);
        Judged.due("does nothing", x.step(0), 0);
        Judged.due("began", x.count(23), 4);
        x = begun(Judged.main(classes.replace("@", ""), lines));
        takeLock(x);
        Judged.due("waits for the LOCK", x.state(0, 0), 1);
        Judged.due("does nothing", x.step(0), 0);
        Judged.due("so C did not begin", x.count(23), 3);
    }

    private static void takeLock(ThreadJudge x) {
        Judged.due("up to start", x.run(9, 0), 9);
        for (int k = 0; k < 6; k++) {
            Judged.due("step of run", x.step(1), 1);
        }
        Judged.due("began: Main, Object, Thread", x.count(23), 3);
        Judged.due("the CLASS is a thing", x.thing(2, 1), 3019);
        Judged.due("its LOCK is taken", x.thing(2, 4), 1);
    }

    private static void monitors() {
        ThreadJudge x = begun(Judged.main("class T extends Thread { method void run() { getstatic Main.o; enter; push 7;" + P + "getstatic Main.o; exit; return; } }",
            "new Object; putstatic Main.o; new T; virtual void Thread.start(); getstatic Main.o; store 1; load 1; enter; load 1; enter; load 1; exit; load 1; exit; return;").replace("class Main {", "class Main { static field Object o;"));
        for (int k = 0; k < 8; k++) {
            x.step(0);
        }
        Judged.due("entered", x.thing(0, 3), 1);
        Judged.due("by", x.thing(0, 4), 0);
        x.step(1);
        Judged.due("waits", x.state(1, 0), 1);
        Judged.due("for", x.state(1, 4), 0);
        Judged.due("does nothing", x.step(1), 0);
        x.step(0);
        x.step(0);
        Judged.due("twice", x.thing(0, 3), 2);
        x.step(0);
        x.step(0);
        Judged.due("once", x.thing(0, 3), 1);
        Judged.due("still waits", x.state(1, 0), 1);
        x.step(0);
        x.step(0);
        Judged.due("goes on", x.state(1, 0), 0);
        Judged.due("enters", x.step(1), 1);
        Judged.due("by", x.thing(0, 4), 1);
        raises("", "new Main; store 1; new Main; store 2; load 1; enter; load 2; enter; load 1; exit; load 2; exit;", 12, true);
        // a 'synchronized' run enters by a step of its own
        x = begun(Judged.main("class T extends Thread { synchronized method void run() { return; } }", "new T; dup; store 1; virtual void Thread.start(); load 1; enter; load 1; exit; return;"));
        for (int k = 0; k < 6; k++) {
            x.step(0);
        }
        Judged.due("waits for its lock", x.state(1, 0), 1);
        Judged.due("frames", x.state(1, 1), 1);
        x.step(0);
        x.step(0);
        Judged.due("enters", x.step(1), 1);
        Judged.due("still at the first", x.state(1, 2), 14);
        Judged.due("entered", x.thing(0, 4), 1);
        Judged.due("returns", x.step(1), 1);
        Judged.due("let go", x.thing(0, 4), -1);
        x = begun("class Main { static synchronized method void main() { return; } }");
        Judged.due("no thing", x.count(18), 0);
        Judged.due("enters", x.step(0), 1);
        Judged.due("the CLASS", x.thing(0, 1), 3019);
        Judged.due("returns", x.step(0), 1);
        Judged.due("steps", x.count(17), 2);
    }

    /** The same, where rows at the handler are to be alike: the monitors are entered ahead of the catch. */
    private static void raises(String classes, String lines, int type, boolean rows) {
        ThreadJudge x = begun(Judged.main("class C { static method void m() { new Main; store 1; new Main; store 2; load 1; enter; load 2; enter; load 1; exit; load 2; exit; return; } }", "A: call void C.m(); B: return; H: store 9; return; catch Throwable A B H;"));
        x.run(11, 1);
        Judged.due("raised " + rows, x.thing(2, 0), type);
        Judged.due("let go", x.thing(0, 3) + x.thing(1, 3), 0);
        Judged.due("caught", x.state(0, 1), 1);
    }

    private static void waiting() {
        ThreadJudge x = begun(Judged.main("class T extends Thread { method void run() { getstatic Main.o; store 1; load 1; enter; load 1; enter; load 1; virtual void Object.wait(); load 1; exit; load 1; exit; return; } }",
            "new Object; putstatic Main.o; new T; virtual void Thread.start(); new T; virtual void Thread.start(); getstatic Main.o; store 1; load 1; enter; load 1; virtual void Object.notify(); load 1; virtual void Object.notifyAll(); load 1; exit; return;").replace("class Main {", "class Main { static field Object o;"));
        for (int k = 0; k < 6; k++) {
            x.step(0);
        }
        for (int t = 2; t >= 1; t--) {
            for (int k = 0; k < 8; k++) {
                Judged.due("goes to wait", x.step(t), 1);
            }
            Judged.due("sleeps", x.state(t, 0), 2);
            Judged.due("sleeps at", x.state(t, 4), 0);
            Judged.due("the wait is done", x.state(t, 2), 14 + 8);
            Judged.due("its stack is empty", x.local(t, 10), -1);
            Judged.due("let go wholly", x.thing(0, 3), 0);
            Judged.due("does nothing", x.step(t), 0);
        }
        for (int k = 0; k < 6; k++) {
            x.step(0);
        }
        Judged.due("told: the longest", x.state(2, 0), 1);
        Judged.due("waits for", x.state(2, 4), 0);
        Judged.due("the other sleeps", x.state(1, 0), 2);
        x.step(0);
        x.step(0);
        Judged.due("all are told", x.state(1, 0), 1);
        x.step(0);
        x.step(0);
        Judged.due("can go on", x.state(1, 0) * 10 + x.state(2, 0), 0);
        Judged.due("has it", x.step(1), 1);
        Judged.due("as before", x.thing(0, 3), 2);
        Judged.due("the other waits", x.state(2, 0), 1);
        Judged.due("exits", x.step(1) + x.step(1) + x.step(1) + x.step(1), 4);
        Judged.due("free", x.state(2, 0), 0);
        x.run(100, 3);
        Judged.due("all end", x.state(0, 0) + x.state(1, 0) + x.state(2, 0), 12);
    }

    private static void threads() {
        ThreadJudge x = begun(Judged.main("class T extends Thread { method void run() { new Cast; throw; } synchronized method void uncaught(Throwable) { load 1; is Cast;" + P + "new State; throw; } } class N extends Ab { } abstract class Ab extends Thread { abstract method void run(); }",
            "new T; store 1; load 1; virtual void Thread.join(); load 1; virtual void Thread.start(); A: load 1; virtual void Thread.start(); B: return; H: is State;" + P + "load 1; virtual void Thread.join(); new N; virtual void Thread.start(); return; catch Throwable A B H;"));
        for (int k = 0; k < 8; k++) {
            Judged.due("step " + k, x.step(0), 1);
        }
        Judged.due("State caught", x.local(0, 10), 1);
        for (int k = 0; k < 3; k++) {
            x.step(0);
        }
        Judged.due("joins", x.state(0, 0), 3);
        Judged.due("no thing", x.state(0, 4), -1);
        Judged.due("does nothing", x.step(0), 0);
        Judged.due("new", x.step(1), 1);
        Judged.due("throws", x.step(1), 1);
        Judged.due("uncaught", x.state(1, 3), 18);
        Judged.due("frames", x.state(1, 1), 1);
        Judged.due("with it", x.local(1, 1), 2);
        Judged.due("enters its lock", x.step(1), 1);
        Judged.due("lock", x.thing(0, 4), 1);
        for (int k = 0; k < 5; k++) {
            x.step(1);
        }
        Judged.due("ended", x.state(1, 0), 4);
        Judged.due("let go", x.thing(0, 4), -1);
        Judged.due("goes on", x.step(0), 1);
        x.step(0);
        x.step(0);
        Judged.due("no run is selected", x.state(2, 0), 4);
        Judged.due("threads", x.count(19), 3);
        Judged.due("said", x.count(20), 2);
    }

    private static void hooks() {
        String t = "class T extends Thread { field int n; method void run() { load 0; get T.n;" + P + "load 0; get T.n; ifeq L; new T; dup; push 0; put T.n; call void Runtime.hook(Thread); L: return; } } ";
        ThreadJudge x = begun(Judged.main(t, "new T; store 1; load 1; push 1; put T.n; new T; store 2; load 2; push 2; put T.n; load 2; call void Runtime.hook(Thread); load 1; call void Runtime.hook(Thread); load 2; call void Runtime.hook(Thread); return;"));
        x.run(16, 1);
        Judged.due("noted", x.count(19), 1);
        Judged.due("last step", x.step(0), 1);
        Judged.due("all at once", x.count(19), 3);
        Judged.due("in order", x.local(1, 0) * 10 + x.local(2, 0), 10);
        x.run(200, 1);
        Judged.due("again", x.count(19), 5);
        Judged.due("said", x.count(20), 4);
        Judged.due("not full", x.count(24), 0);
        x = begun(Judged.main(t, "push 12; store 1; L: new T; call void Runtime.hook(Thread); inc 1 -1; load 1; ifgt L; return;"));
        x.run(200, 1);
        Judged.due("more than 12", x.count(24), 1);
        Judged.due("none of them", x.count(19), 1);
        Judged.due("the step was done", x.count(17), 2 + 12 * 5 + 1);
        // started ones are not begun again
        x = begun(Judged.main(t, "new T; store 1; load 1; call void Runtime.hook(Thread); load 1; virtual void Thread.start(); return;"));
        x.run(200, 1);
        Judged.due("once", x.count(19), 2);
    }

    private static void reflection() {
        says("class A { field int n; method void <init>() { load 0; push 4; put A.n; return; } method Object a() { load 0; give; } method int b() { load 0; get A.n;" + P + "push 1; give; } static method void c() { push 6;" + P + "return; } static method void <clinit>() { push 2;" + P + "return; } } class B extends A { method int b() { push 9;" + P + "push 1; give; } }",
            "string \"A\"; call Class Class.named(String); store 1; push 3;" + P + "load 1; virtual Object Class.newInstance(); store 2; load 2; cast A; get A.n;" + P
            + "load 1; string \"b\"; virtual Method Class.find(String); store 3; load 3; load 2; virtual Object Method.invoke(Object); ifnull L; return; L: load 3; new B; virtual Object Method.invoke(Object); pop;"
            + "load 1; string \"c\"; virtual Method Class.find(String); null; virtual Object Method.invoke(Object); ifnull M; return; M: load 1; string \"a\"; virtual Method Class.find(String); load 2; virtual Object Method.invoke(Object); load 2; same N; return; N: push 8;" + P + "return;",
            2, 3, 4, 4, 9, 6, 8);
        says("interface F { abstract method Object f(); method Object g() { push 5;" + P + "null; give; } } class C { static method Object l(int) { load 0;" + P + "null; give; } } class D implements F { method Object f() { push 1;" + P + "null; give; } }",
            "push 7; lambda F Object C.l(int); store 1; string \"D\"; call Class Class.named(String); string \"f\"; virtual Method Class.find(String); store 2; string \"F\"; call Class Class.named(String); string \"g\"; virtual Method Class.find(String); load 1; virtual Object Method.invoke(Object); pop; load 1; virtual Object F.f(); pop; A: load 2; load 1; virtual Object Method.invoke(Object); pop; B: return; H: is Cast;" + P + "return; catch Throwable A B H;",
            5, 7, 1);
        ThreadJudge x = begun(Judged.main("", "string \"Main\"; call Class Class.named(String); pop; string \"Main\"; call Class Class.named(String); return;"));
        x.run(100, 1);
        Judged.due("one STRING, one CLASS", x.count(18), 2);
        Judged.due("CLASS", x.thing(1, 0), 3);
    }

    private static void full() {
        ThreadJudge x = begun(Judged.main("", "push 400; store 1; L: new Main; pop; inc 1 -1; load 1; ifgt L; new Main; return;"));
        x.run(2000, 1);
        x.run(2000, 1);
        Judged.due("things", x.count(18), 400);
        Judged.due("full", x.count(24), 1);
        Judged.due("steps", x.count(17), 2002);
        Judged.due("nothing is done", x.step(0), 0);
        Judged.due("told as if", x.state(0, 0), 0);
        Judged.due("nothing", x.run(5, 1), 0);
        x = begun(Judged.main("class A { static method void a() { call void A.a(); return; } }", "call void A.a(); return;"));
        x.run(2000, 1);
        Judged.due("frames", x.state(0, 1), 30);
        Judged.due("full", x.count(24), 1);
        Judged.due("steps", x.count(17), 29);
        x = begun(Judged.main("", "L: new Thread; virtual void Thread.start(); goto L;"));
        for (int k = 0; k < 200 && x.count(24) == 0; k++) {
            x.step(0);
        }
        Judged.due("threads", x.count(19), 12);
        Judged.due("steps", x.count(17), 3 * 11 + 1);
        // what began at once in that step has not begun
        x = begun(Judged.main("class Q { static field int q; }", "push 400; store 1; L: new Main; pop; inc 1 -1; load 1; ifgt L; new Q; return;"));
        x.run(2000, 1);
        x.run(2000, 1);
        Judged.due("begun", x.count(23), 2);
        // 30 frames: the clinit's would be the 31st
        x = begun(Judged.main("class Q { static field int q; static method void <clinit>() { return; } } class A { static method void a(int) { load 0; ifle L; load 0; push 1; sub; call void A.a(int); return; L: getstatic Q.q; pop; return; } }", "push 28; call void A.a(int); return;"));
        x.run(2000, 1);
        Judged.due("full", x.count(24), 1);
        Judged.due("frames", x.state(0, 1), 30);
    }

    private static void clashes() {
        String t = "class T extends Thread { method void run() { getstatic Main.n; pop; push 1; putstatic Main.n; push 1; putstatic Main.v; return; } } class Main { static field int n; static volatile field int v; static method void main() { ";
        ThreadJudge x = begun(t + "new T; dup; store 1; virtual void Thread.start(); getstatic Main.n; pop; push 2; putstatic Main.n; load 1; virtual void Thread.join(); getstatic Main.n; pop; return; } }");
        int m = x.method(18, 3);
        for (int k = 0; k < 8; k++) {
            x.step(0);
        }
        for (int k = 0; k < 7; k++) {
            x.step(1);
        }
        x.run(100, 1);
        Judged.due("clashes", x.count(21), 3);
        Judged.due("first", x.clash(0, 0), 14);
        Judged.due("first", x.clash(0, 1), m + 7);
        Judged.due("second", x.clash(1, 0), 17);
        Judged.due("second", x.clash(1, 1), m + 4);
        Judged.due("third", x.clash(2, 0), 17);
        Judged.due("third", x.clash(2, 1), m + 7);
        Judged.due("no what", x.clash(0, 2), -1);
        Judged.due("no more", x.clash(3, 0), -1);
        // a volatile reading behind the writing
        x = begun(t + "new T; virtual void Thread.start(); getstatic Main.v; pop; getstatic Main.n; pop; return; } }");
        x.step(0);
        x.step(0);
        for (int k = 0; k < 7; k++) {
            x.step(1);
        }
        x.run(100, 1);
        Judged.due("behind the writing", x.count(21), 0);
        x = begun(t + "new T; virtual void Thread.start(); getstatic Main.v; pop; getstatic Main.n; pop; return; } }");
        for (int k = 0; k < 4; k++) {
            x.step(0);
        }
        for (int k = 0; k < 7; k++) {
            x.step(1);
        }
        x.run(100, 1);
        Judged.due("before the writing", x.count(21), 1);
        // what lets a class begin at once is not before what finds it begun
        x = begun("class C { static field int n; } class T extends Thread { method void run() { getstatic C.n; pop; return; } } class Main { static method void main() { new T; virtual void Thread.start(); push 1; putstatic C.n; return; } }");
        for (int k = 0; k < 5; k++) {
            x.step(0);
        }
        x.run(100, 1);
        Judged.due("in the same step", x.count(21), 1);
        x = begun("class C { static field int n; static method void <clinit>() { push 1; putstatic C.n; return; } } class T extends Thread { method void run() { getstatic C.n; pop; return; } } class Main { static method void main() { new T; virtual void Thread.start(); getstatic C.n; pop; return; } }");
        for (int k = 0; k < 6; k++) {
            x.step(0);
        }
        x.run(100, 1);
        Judged.due("behind the beginning", x.count(21), 0);
        // elements, one by one
        x = begun(Judged.main("class T extends Thread { method void run() { getstatic Main.r; push 1; push 5; setelement; return; } }", "push 2; array int; putstatic Main.r; new T; virtual void Thread.start(); getstatic Main.r; push 0; element; pop; getstatic Main.r; push 1; element; pop; return;").replace("class Main {", "class Main { static field int[] r;"));
        for (int k = 0; k < 14; k++) {
            x.step(0);
        }
        x.run(100, 1);
        Judged.due("elements", x.count(21), 1);
        Judged.due("elements", x.clash(0, 1), x.method(18, 3) + 11);
    }

    private static void deadlock() {
        String text = "class Main { static field Object a; static field Object b; static method void one() { getstatic Main.a; enter; getstatic Main.b; enter; getstatic Main.b; exit; getstatic Main.a; exit; return; } static method void two() { getstatic Main.b; enter; getstatic Main.a; enter; getstatic Main.a; exit; getstatic Main.b; exit; return; } "
            + "static method void main() { new Object; putstatic Main.a; new Object; putstatic Main.b; new Thread; dup; lambda Runnable void Main.one(); special void Thread.<init>(Runnable); virtual void Thread.start(); call void Main.two(); return; } }";
        ThreadJudge x = Judged.loaded(text);
        x.analyse(3, 300);
        x.begin();
        for (int k = 0; k < 14; k++) {
            x.step(0);
        }
        for (int k = 0; k < 8; k++) {
            x.step(1);
        }
        Judged.due("no deadlock yet", x.count(22), 0);
        for (int k = 0; k < 3; k++) {
            x.step(0);
        }
        Judged.due("nor now", x.count(22), 0);
        x.run(100, 1);
        Judged.due("a deadlock", x.count(22), 1);
        Judged.due("each waits", x.state(0, 0) + x.state(1, 0), 2);
        Judged.due("foreseen", x.foreseen() ? 1 : 0, 1);
        Judged.due("it stays one", x.step(0), 0);
        Judged.due("it stays one", x.count(22), 1);
        deadlockBehindWait();
    }

    /** One that was told wants its monitor back, which another one has that wants what it holds. */
    private static void deadlockBehindWait() {
        ThreadJudge x = Judged.loaded("class T extends Thread { method void run() { getstatic Main.a; enter; getstatic Main.b; enter; getstatic Main.b; virtual void Object.wait(); getstatic Main.b; exit; getstatic Main.a; exit; return; } } "
            + "class Main { static field Object a; static field Object b; static method void main() { new Object; putstatic Main.a; new Object; putstatic Main.b; new T; virtual void Thread.start(); "
            + "getstatic Main.b; enter; getstatic Main.b; virtual void Object.notify(); getstatic Main.a; enter; getstatic Main.a; exit; getstatic Main.b; exit; return; } }");
        for (int policy = 0; policy < 4; policy++) {
            x.analyse(policy, 300);
            x.begin();
            for (int k = 0; k < 6; k++) {
                x.step(0);
            }
            for (int k = 0; k < 6; k++) {
                x.step(1);
            }
            Judged.due("sleeps", x.state(1, 0), 2);
            for (int k = 0; k < 4; k++) {
                x.step(0);
            }
            Judged.due("told", x.state(1, 0), 1);
            Judged.due("not yet", x.count(22), 0);
            x.step(0);
            Judged.due("a ring", x.count(22), 1);
            Judged.due("foreseen", x.foreseen() ? 1 : 0, 1);
        }
    }

    private static void draws() {
        ThreadJudge x = begun(Judged.main("class T extends Thread { method void run() { push 1;" + P + "return; } }", "new T; virtual void Thread.start(); new T; virtual void Thread.start(); push 0;" + P + "push 0;" + P + "return;"));
        x.step(0);
        x.step(0);
        x.step(0);
        x.step(0);
        int d = 77;
        int[] left = {5, 3, 3};
        long v = d;
        ThreadJudge y = begun(Judged.main("class T extends Thread { method void run() { push 1;" + P + "return; } }", "new T; virtual void Thread.start(); new T; virtual void Thread.start(); push 0;" + P + "push 0;" + P + "return;"));
        y.step(0);
        y.step(0);
        y.step(0);
        y.step(0);
        for (int k = 0; k < 11; k++) {
            v = (v * 1103515245L + 12345L) & 0x7fffffffL;
            int ready = 0;
            for (int n : left) {
                ready += n > 0 ? 1 : 0;
            }
            int far = (int) (v / 65536 % ready);
            for (int t = 0; t < 3; t++) {
                if (left[t] > 0 && far-- == 0) {
                    left[t]--;
                    Judged.due("drawn", y.step(t), 1);
                    break;
                }
            }
        }
        Judged.due("so many were done", x.run(50, d), 11);
        for (int k = 0; k < 4; k++) {
            Judged.due("the same was said", x.said(k), y.said(k));
        }
        Judged.due("none can go on", x.run(50, d), 0);
    }

    private static void wrongInputs() {
        ThreadJudge x = Judged.loaded(Judged.main("", "return;"));
        Judged.due("no run", x.step(0), -1);
        Judged.due("no run", x.run(5, 5), -1);
        Judged.due("no run", x.state(0, 0), -1);
        Judged.due("no run", x.value(0, 0), -1);
        x.begin();
        Judged.due("steps", x.run(0, 5), -1);
        Judged.due("steps", x.run(2001, 5), -1);
        Judged.due("steps", x.run(-1, 5), -1);
        Judged.due("no thread", x.step(1), 0);
        Judged.due("no thread", x.step(-1), 0);
        Judged.due("no thread", x.state(1, 0), -1);
        Judged.due("no what", x.state(0, 5), -1);
        Judged.due("no place", x.local(0, -1), -1);
        Judged.due("no place", x.local(1, 0), -1);
        Judged.due("not said", x.said(0), -1);
        Judged.due("no clash", x.clash(0, 0), -1);
        Judged.due("run", x.run(1, -5), 1);
        Judged.due("run", x.run(2000, 5), 0);
        x.load();
        Judged.due("gone", x.step(0), -1);
    }

    /** The last frame that there may be, with a full stack. */
    private static void lastFrame() {
        String full = "string \"a\"; ".repeat(8);
        ThreadJudge x = Judged.loaded(Judged.main("class T extends Thread { method void run() { push 28; call void T.d(int); return; } static method void d(int) { load 0; ifle L; load 0; push 1; sub; call void T.d(int); return; L: "
            + full + "goto M; M: virtual void Object.notify(); return; } }", "L: new T; virtual void Thread.start(); goto L;"));
        x.analyse(0, 300);
        x.begin();
        for (int k = 0; k < 32; k++) {
            x.step(0);
        }
        Judged.due("threads", x.count(19), 12);
        for (int k = 0; k < 181; k++) {
            Judged.due("step", x.step(11), 1);
        }
        Judged.due("instruction", x.state(11, 2), x.method(18, 3) + 16);
        Judged.due("frames", x.state(11, 1), 30);
        Judged.due("stack", x.local(11, 17), 11);
        Judged.due("state", x.state(11, 0), 0);
        Judged.due("raises", x.step(11), 1);
        Judged.due("uncaught", x.state(11, 3), 12);
    }
}
