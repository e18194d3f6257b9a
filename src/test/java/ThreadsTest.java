/** THREADS, MONITORS: once, singular, threads, before and behind, parallel, held, escapes, races, knots, waits: sentence by sentence. */
public final class ThreadsTest {
    public static void main(String[] args) {
        mainIsOnce();
        clinitIsOnce();
        calledByOne();
        instructionIsOnce();
        singularObjects();
        threadsInOrder();
        singleThreads();
        threadsRun();
        beforeAThread();
        hooksAmongStarts();
        beforeNeedsAllInMain();
        beforeNeedsMainOnce();
        theBeginning();
        topsOfCalled();
        behindAThread();
        behindNeedsMainOnce();
        behindNeedsSingle();
        behindNeedsOneStart();
        behindNeedsStartOnce();
        behindNeedsJoinAlone();
        behindNeedsEveryWay();
        parallelThreads();
        parallelInSomeInstances();
        parallelBadInputs();
        surelyHeld();
        surelyHeldByLock();
        surelyHeldByCallers();
        mayBeHeld();
        escapes();
        races();
        racesOfElements();
        racesNeedEscaping();
        racesAndMonitors();
        racesInOrder();
        knots();
        knotsOfOneKind();
        knotsNeedTwoThreads();
        knotsInOrder();
        waits();
        Judged.end();
    }

    private static ThreadJudge of(String text) {
        ThreadJudge x = Judged.loaded(text);
        x.analyse(0, 300);
        return x;
    }

    private static ThreadJudge of(int policy, String text) {
        ThreadJudge x = Judged.loaded(text);
        x.analyse(policy, 300);
        return x;
    }

    private static int object(ThreadJudge x, int site) {
        for (int o = 0; o < x.count(9); o++) {
            if (x.object(o, 0) == site) {
                return o;
            }
        }
        return -1;
    }

    // ---- once, singular

    /** "A method is ONCE: MAIN, if nothing calls or starts it (only so)" */
    private static void mainIsOnce() {
        Judged.due("MAIN", of(Judged.main("", "return;")).reached(17, 1), 1);
        Judged.due("called by itself", of(Judged.main("", "push 1; ifeq L; call void Main.main(); L: return;")).reached(17, 1), 0);
        Judged.due("called by one that is once", of("class Main { static method void main() { return; } static method void <clinit>() { call void Main.main(); return; } }").reached(17, 1), 0);
        Judged.due("called by a lambda", of(Judged.main("", "new Thread; dup; lambda Runnable void Main.main(); special void Thread.<init>(Runnable); virtual void Thread.start(); return;")).reached(17, 1), 0);
        Judged.due("never called", of(Judged.main("", "return; call void Main.main();")).reached(17, 1), 1);
        ThreadJudge x = of(1, Judged.main("", "push 1; ifeq L; call void Main.main(); L: return;"));
        Judged.due("by any policy", x.reached(17, 1), 0);
        Judged.due("instances", x.reached(17, 0), 2);
    }

    /** "each <clinit>" */
    private static void clinitIsOnce() {
        ThreadJudge x = of(Judged.main("class A { static field int f; static method void <clinit>() { return; } } class B { static method void <clinit>() { return; } } excluded class C { static method void <clinit>() { return; } } ", "getstatic A.f; pop; L: getstatic A.f; ifeq L; return;"));
        Judged.due("let begin by two", x.reached(17, 1), 1);
        Judged.due("never", x.reached(18, 1), 1);
        Judged.due("excluded", x.reached(19, 1), 1);
    }

    /** "another one that just one instruction (of all instances together) calls or starts, if that is ONCE. (The least such.)" */
    private static void calledByOne() {
        String a = "class A { static method void a() { return; } static method void b() { call void A.a(); return; } static method void c() { call void A.c(); return; } static method void d() { call void A.e(); return; } static method void e() { call void A.d(); return; } } ";
        // a 17, b 18, c 19, d 20, e 21
        Judged.due("by one", of(Judged.main(a, "call void A.a(); return;")).reached(17, 1), 1);
        Judged.due("by two", of(Judged.main(a, "call void A.a(); call void A.a(); return;")).reached(17, 1), 0);
        Judged.due("in a loop", of(Judged.main(a, "L: call void A.a(); goto L;")).reached(17, 1), 0);
        Judged.due("by one of one", of(Judged.main(a, "call void A.b(); return;")).reached(17, 1), 1);
        Judged.due("by one of two", of(Judged.main(a, "call void A.b(); call void A.b(); return;")).reached(17, 1), 0);
        Judged.due("by one and itself", of(Judged.main(a, "call void A.c(); return;")).reached(19, 1), 0);
        ThreadJudge x = of(Judged.main(a, "call void A.d(); return;"));
        Judged.due("in a ring", x.reached(20, 1), 0);
        Judged.due("in a ring too", x.reached(21, 1), 0);
        Judged.due("by none", of(Judged.main(a, "return;")).reached(17, 1), 0);
        x = of(1, Judged.main(a, "call void A.b(); call void A.b(); return;"));
        Judged.due("one instruction of two instances", x.reached(17, 1), 0);
        x = of(2, Judged.main("class A { method void m() { return; } method void n() { load 0; virtual void A.m(); return; } } ", "push 1; ifeq L; new A; goto M; L: new A; M: virtual void A.n(); return;"));
        Judged.due("two instances of n", x.reached(18, 0), 2);
        Judged.due("called by one instruction", x.reached(18, 1), 1);
        Judged.due("one instruction in both", x.reached(17, 1), 1);
        String t = "class T extends Thread { method void run() { return; } } ";
        x = of(Judged.main(t, "new T; virtual void Thread.start(); return;"));
        Judged.due("run started by one", x.reached(17, 1), 1);
        Judged.due("uncaught too", x.reached(12, 1), 1);
        Judged.due("started by two", of(Judged.main(t, "new T; dup; virtual void Thread.start(); virtual void Thread.start(); return;")).reached(17, 1), 0);
        Judged.due("started and called", of(Judged.main(t, "new T; dup; virtual void Thread.start(); virtual void Thread.run(); return;")).reached(17, 1), 0);
        Judged.due("started in a loop", of(Judged.main(t, "L: new T; virtual void Thread.start(); goto L;")).reached(17, 1), 0);
        Judged.due("hooked by one", of(Judged.main(t, "new T; call void Runtime.hook(Thread); return;")).reached(17, 1), 1);
        Judged.due("native", of(Judged.main(t, "new T; virtual void Thread.start(); return;")).reached(13, 1), 0);
    }

    /** "An instruction is ONCE, if its method is, and no way leads from it to itself (ways as the check goes, 'catch' too)." */
    private static void instructionIsOnce() {
        String[] lines = {"new A; pop; return;", "L: new A; pop; goto L;", "L: push 1; ifeq E; new A; pop; goto L; E: return;", "push 1; ifeq E; new A; pop; E: return;",
            "H: A: new A; pop; B: return; catch Throwable A B H;", "goto X; H: A: new A; B: pop; push 1; ifeq E; return; X: null; goto H; E: return; catch Throwable A B H;", "goto X; L: return; X: new A; pop; goto L;",
            "A: push 1; pop; B: return; H: pop; new A; pop; goto A; catch Throwable A B H;", "A: push 1; pop; B: return; H: pop; new A; pop; return; catch Throwable A B H;"};
        int[] once = {1, 0, 0, 1, -1, -1, 1, 0, 1};
        for (int k = 0; k < lines.length; k++) {
            if (once[k] >= 0) {
                ThreadJudge x = of(Judged.main("class A { } ", lines[k]));
                Judged.due("singular: " + lines[k], x.object(0, 3), once[k]);
            }
        }
        // a way by a catch alone
        ThreadJudge x = of(Judged.main("class A { } ", "null; goto H; X: A: pop; new A; pop; B: return; H: pop; null; goto X; catch Throwable A B H;".replace("H: pop; null; goto X;", "H: goto X;")));
        Judged.due("a way back by 'catch'", x.object(0, 3), 0);
        x = of(Judged.main("class A { } class B { static method void m() { new A; pop; return; } } ", "call void B.m(); call void B.m(); return;"));
        Judged.due("its method is not once", x.object(0, 3), 0);
    }

    /** "An object is SINGULAR: STRINGS, CLASSES, METHODS; those of a site below 2,000 that is ONCE." */
    private static void singularObjects() {
        ThreadJudge x = of(Judged.main("class K { method void m() { return; } } ", "new K; pop; push 1; array K; pop; lambda Runnable void Main.main(); pop; L: new K; pop; push 1; array K; pop; lambda Runnable void Main.main(); pop; string \"K\"; call Class Class.named(String); dup; virtual Object Class.newInstance(); pop; string \"m\"; virtual Method Class.find(String); pop; goto L;"));
        int[] due = {1, 1, 1, 0, 0, 0, 1, 1, 1, 1, 0, 0, 0, 0, 0};
        Judged.due("objects", x.count(9), due.length);
        for (int o = 0; o < due.length; o++) {
            Judged.due("singular " + x.object(o, 0), x.object(o, 3), due[o]);
        }
        x = of(Judged.main("class K { } ", "string \"K\"; call Class Class.named(String); virtual Object Class.newInstance(); pop; return;"));
        Judged.due("of newInstance once", x.object(object(x, 6019), 3), 0);
        Judged.due("of the machine", x.object(object(x, 5014), 3), 0);
        // by contexts: one site that is once
        x = of(2, Judged.main("class K { method void m() { new Object; pop; return; } } ", "push 1; ifeq L; new K; goto M; L: new K; M: virtual void K.m(); return;"));
        Judged.due("first context", x.object(0, 3), 1);
        Judged.due("second context", x.object(1, 0) == 14 ? x.object(1, 3) : -5, 1);
    }

    // ---- threads

    /** "THREAD 0 is MAIN's; the others one for each object that is started, in the order of objects." */
    private static void threadsInOrder() {
        String t = "class T extends Thread { } class U extends Thread { } ";
        ThreadJudge x = of(Judged.main(t, "new T; pop; new U; store 1; new T; store 2; load 2; call void Runtime.hook(Thread); load 1; virtual void Thread.start(); return;"));
        Judged.due("threads", x.count(10), 3);
        Judged.due("thread 0 is of none", x.thread(0, 0), -1);
        Judged.due("first the lesser object", x.thread(1, 0), 1);
        Judged.due("then the other", x.thread(2, 0), 2);
        Judged.due("not started", x.object(0, 5), -1);
        Judged.due("thread 1", x.object(1, 5), 1);
        Judged.due("thread 2", x.object(2, 5), 2);
        Judged.due("no thread", x.thread(3, 0), -1);
        Judged.due("no thread", x.thread(-1, 0), -1);
        Judged.due("no what", x.thread(0, 3), -1);
        Judged.due("no what", x.thread(0, -1), -1);
        x = of(Judged.main(t, "new T; dup; virtual void Thread.start(); dup; virtual void Thread.start(); call void Runtime.hook(Thread); return;"));
        Judged.due("one object, one thread", x.count(10), 2);
        x = of(Judged.main(t, "L: new T; virtual void Thread.start(); goto L;"));
        Judged.due("one object of many things", x.count(10), 2);
    }

    /** "A thread is SINGLE: 0, and those of SINGULAR objects." */
    private static void singleThreads() {
        ThreadJudge x = of(Judged.main("", "new Thread; virtual void Thread.start(); L: new Thread; virtual void Thread.start(); goto L;"));
        Judged.due("0", x.thread(0, 1), 1);
        Judged.due("once", x.thread(1, 1), 1);
        Judged.due("in a loop", x.thread(2, 1), 0);
        x = of(Judged.main("class T extends Thread { } ", "string \"T\"; call Class Class.named(String); virtual Object Class.newInstance(); cast Thread; virtual void Thread.start(); return;"));
        Judged.due("of newInstance", x.thread(1, 1), 0);
        x = of(Judged.main("", "L: push 1; ifeq L; call void Main.main(); return;"));
        Judged.due("0 also if MAIN is called", x.thread(0, 1), 1);
    }

    /** "A thread RUNS the instance MAIN (0; and each <clinit> of its class and of what that extends), or those that are started for its object, and all that these call, each <clinit> that they let begin (also of what a class extends), and so on." */
    private static void threadsRun() {
        String s = "class S { static method void <clinit>() { call void A.a(); return; } } class C extends S { static field int f; static method void <clinit>() { return; } } class A { static method void a() { return; } static method void b() { call void A.a(); return; } } ";
        ThreadJudge x = of(Judged.main(s, "return;"));
        Judged.due("MAIN alone", x.thread(0, 2), 1);
        x = of(Judged.main(s, "call void A.b(); return;"));
        Judged.due("MAIN, b, a", x.thread(0, 2), 3);
        x = of(Judged.main(s, "getstatic C.f; pop; return;"));
        Judged.due("MAIN, both <clinit>, a", x.thread(0, 2), 4);
        x = of(s + "class Main extends C { static method void <clinit>() { return; } static method void main() { return; } }");
        Judged.due("MAIN, three <clinit>, a", x.thread(0, 2), 5);
        x = of(s + "class T extends Thread { method void run() { getstatic C.f; pop; return; } } class Main extends T { static method void main() { new T; virtual void Thread.start(); return; } }");
        Judged.due("MAIN", x.thread(0, 2), 1);
        Judged.due("run, uncaught, both <clinit>, a", x.thread(1, 2), 5);
        x = of(s + "class T extends Thread { method void run() { call void A.b(); return; } } class U extends T { } class Main { static method void main() { new T; virtual void Thread.start(); new U; virtual void Thread.start(); call void A.a(); return; } }");
        Judged.due("MAIN, a", x.thread(0, 2), 2);
        Judged.due("run, uncaught, b, a", x.thread(1, 2), 4);
        Judged.due("the same", x.thread(2, 2), 4);
        x = of(1, s + "class T extends Thread { method void run() { call void A.b(); return; } } class U extends T { } class Main { static method void main() { new T; virtual void Thread.start(); new U; virtual void Thread.start(); call void A.a(); return; } }");
        Judged.due("by 1 its own run and uncaught", x.thread(1, 2), 4);
        Judged.due("instances", x.count(8), 1 + 1 + 4 + 2);
    }

    // ---- before and behind

    private static final String T = "class T extends Thread { method void run() { return; } } class U extends T { } class W { static method void w() { return; } static method void v() { call void W.w(); return; } static method void start(Thread) { load 0; virtual void Thread.start(); return; } static method void join(Thread) { load 0; virtual void Thread.join(); return; } } ";

    /** Which instructions of MAIN may be parallel with run's: a sign 1 or 0 for each. */
    private static void meets(String lines, String due) {
        ThreadJudge x = of(Judged.main(T, lines));
        meets(x, x.method(x.count(5) - 1, 3), lines, due);
    }

    private static void meets(ThreadJudge x, int first, String lines, String due) {
        StringBuilder got = new StringBuilder();
        for (int k = 0; k < due.length(); k++) {
            int p = x.parallel(first + k, 14);
            Judged.due("both ways", x.parallel(14, first + k), p);
            got.append(p < 0 ? "-" : "" + p);
        }
        Judged.yes("meets " + lines + ": " + got + ", due is " + due, got.toString().equals(due));
    }

    /** "An instruction t of MAIN's instance is BEFORE a thread, if .. all instructions that start it stand in MAIN's instance, and from none of them a way of one step or more leads to t" */
    private static void beforeAThread() {
        meets("new T; virtual void Thread.start(); return;", "001");
        meets("new T; call void Runtime.hook(Thread); return;", "001");
        meets("push 1; pop; new T; dup; virtual void Thread.start(); pop; return;", "0000011");
        meets("push 1; ifeq L; new T; virtual void Thread.start(); L: return;", "00001");
        meets("push 1; ifeq L; new T; virtual void Thread.start(); return; L: return;", "000010");
        meets("L: push 1; pop; new T; virtual void Thread.start(); goto L;", "11111");
        meets("new T; store 1; L: load 1; virtual void Thread.start(); goto L;", "00111");
        meets("new T; store 1; load 1; virtual void Thread.start(); push 1; pop; load 1; virtual void Thread.start(); return;", "000011111");
        // a way by a catch
        meets("null; A: new T; virtual void Thread.start(); pop; return; B: pop; H: pop; return; catch Throwable A B H;", "000" + "11-11");
        meets("new T; A: virtual void Thread.start(); B: return; H: pop; return; catch Throwable A B H;", "00111");
        meets("new T; dup; A: push 1; pop; B: virtual void Thread.start(); pop; return; H: pop; return; catch Throwable A B H;", "00000" + "1100");
        // of a receiver that may be two, the one that is hooked later: what starts the other one does not start it
        ThreadJudge x = of(Judged.main("class T extends Thread { method void run() { return; } } class U extends Thread { method void start() { return; } method void run() { return; } } ", "new T; store 1; new U; store 2; push 1; ifeq L; load 1; goto M; L: load 2; M: virtual void Thread.start(); push 5; pop; load 2; call void Runtime.hook(Thread); return;"));
        // T.run 14, U.start 15, U.run 16, main 17 .. : start 26, push 27, pop 28, load 29, hook 30, return 31
        for (int i = 17; i < 32; i++) {
            Judged.due("T and " + i, x.parallel(i, 14), i > 26 ? 1 : 0);
            Judged.due("U and " + i, x.parallel(i, 16), i > 30 ? 1 : 0);
        }
        // each thread by what starts it alone
        String tu = "class T extends Thread { method void run() { return; } } class U extends Thread { method void run() { return; } } ";
        for (int far = 0; far < 40; far += 13) {
            String fill = "push 1; pop; ".repeat(far);
            x = of(Judged.main(tu, "new T; store 1; new U; store 2; load 2; virtual void Thread.start(); " + fill + "load 1; virtual void Thread.start(); push 1; pop; return;"));
            int start = 16 + 5;
            int later = start + far * 2 + 2;
            for (int i = 16; i < x.count(6); i++) {
                Judged.due("T and " + i + " of " + far, x.parallel(i, 14), i > later ? 1 : 0);
                Judged.due("U and " + i + " of " + far, x.parallel(i, 15), i > start ? 1 : 0);
            }
            x = of(Judged.main(tu, "new T; store 1; new U; store 2; load 2; virtual void Thread.start(); load 1; virtual void Thread.start(); load 1; virtual void Thread.join(); " + fill + "load 2; virtual void Thread.join(); push 1; pop; return;"));
            int join = 16 + 9;
            int last = join + far * 2 + 2;
            for (int i = 16; i < x.count(6); i++) {
                Judged.due("T and " + i + ", joined, of " + far, x.parallel(i, 14), i > 23 && i <= join ? 1 : 0);
                Judged.due("U and " + i + ", joined, of " + far, x.parallel(i, 15), i > 21 && i <= last ? 1 : 0);
            }
        }
        // two that start it, of which the first one leads to an end
        meets("new T; store 1; push 1; ifeq L; load 1; virtual void Thread.start(); push 1; pop; return; L: push 1; pop; load 1; virtual void Thread.start(); push 1; return;", "00000011" + "1" + "0000" + "11");
        // threads that are not started are met by none
        meets("new T; pop; return;", "000");
    }

    private static void beforeNeedsAllInMain() {
        meets("new T; store 1; load 1; virtual void Thread.start(); load 1; call void W.start(Thread); return;", "1111111");
        meets("new T; store 1; push 1; pop; load 1; call void W.start(Thread); return;", "1111111");
        meets("new T; dup; lambda Runnable void W.v(); special void Thread.<init>(Runnable); virtual void Thread.start(); return;", "000001");
    }

    /** What hooks one thread does not start another one, nor does what starts one hook another one. */
    private static void hooksAmongStarts() {
        String t = "class T extends Thread { method void run() { return; } } class U extends Thread { method void run() { return; } } ";
        // T.run 14, U.run 15, main 16 ..
        ThreadJudge x = of(Judged.main(t, "new T; store 1; new U; store 2; load 1; virtual void Thread.start(); load 2; call void Runtime.hook(Thread); load 1; virtual void Thread.join(); push 1; pop; return;"));
        for (int i = 16; i < 29; i++) {
            Judged.due("T and " + i, x.parallel(i, 14), i > 21 && i < 26 ? 1 : 0);
            Judged.due("U and " + i, x.parallel(i, 15), i > 23 ? 1 : 0);
        }
        x = of(Judged.main(t, "new T; store 1; new U; store 2; load 2; call void Runtime.hook(Thread); push 1; pop; load 1; call void Runtime.hook(Thread); load 2; virtual void Thread.join(); return;"));
        for (int i = 16; i < 29; i++) {
            Judged.due("T, hooked, and " + i, x.parallel(i, 14), i > 25 ? 1 : 0);
            Judged.due("U, hooked, and " + i, x.parallel(i, 15), i > 21 && i < 28 ? 1 : 0);
        }
    }

    /** "if MAIN is ONCE" */
    private static void beforeNeedsMainOnce() {
        meets("new T; virtual void Thread.start(); return; call void Main.main();", "001-");
        meets("push 1; ifeq L; call void Main.main(); L: new T; virtual void Thread.start(); return;", "111111");
        meets("new T; virtual void Thread.start(); push 1; ifeq L; call void Main.main(); L: return;", "111111");
        // nor is the BEGINNING before it
        ThreadJudge x = of("class T extends Thread { method void run() { call void Main.main(); return; } } class Main { static method void <clinit>() { push 1; pop; new T; virtual void Thread.start(); return; } static method void main() { return; } }");
        Judged.due("MAIN is called", x.reached(19, 1), 0);
        for (int i = 16; i < 21; i++) {
            Judged.due("the beginning with run " + i, x.parallel(i, 14), 1);
        }
        x = of("class T extends Thread { method void run() { call void Main.main(); return; } } class S { static method void <clinit>() { push 1; pop; return; } } class Main extends S { static method void main() { push 1; ifeq L; new T; virtual void Thread.start(); L: return; } }");
        Judged.due("S's beginning too", x.parallel(16, 14), 1);
        x = of("class T extends Thread { method void run() { return; } } class S { static method void <clinit>() { push 1; pop; return; } } class Main extends S { static method void main() { push 1; ifeq L; new T; virtual void Thread.start(); L: return; } }");
        Judged.due("if MAIN is once it is", x.parallel(16, 14), 0);
        // MAIN is called by a lambda, so its class does not begin by that: the BEGINNING alone is a top
        String m = "class T extends Thread { method void run() { return; } } class S { static method void <clinit>() { push 1; pop; return; } } class Main extends S { static method void main() { @ new T; virtual void Thread.start(); return; } }";
        Judged.due("nor if a lambda calls MAIN", of(m.replace("@", "push 1; ifeq L; lambda Runnable void Main.main(); virtual void Runnable.run(); L:")).parallel(15, 14), 1);
        Judged.due("a lambda that none calls", of(m.replace("@", "lambda Runnable void Main.main(); pop;")).parallel(15, 14), 0);
    }

    /** "and the BEGINNING, if a <clinit> of MAIN's class, or of what that extends, is it or calls it so" .. "(to the BEGINNING none does)" .. "(the BEGINNING never)" */
    private static void theBeginning() {
        String s = T + "class S { static method void <clinit>() { call void W.w(); return; } } class Main extends S { static method void <clinit>() { call void W.v(); return; } static method void main() { ";
        // run 14; w 15, v 16, 17, start 18.. join 21..; S.<clinit> 24, 25; Main.<clinit> 26, 27; main 28
        ThreadJudge x = of(s + "new T; virtual void Thread.start(); return; } }");
        for (int i : new int[] {15, 16, 17, 24, 25, 26, 27, 28, 29}) {
            Judged.due("before: " + i, x.parallel(i, 14), 0);
        }
        Judged.due("behind start", x.parallel(30, 14), 1);
        x = of(s + "new T; dup; virtual void Thread.start(); virtual void Thread.join(); call void W.w(); return; } }");
        Judged.due("w: the beginning is before, the call is behind", x.parallel(15, 14), 1);
        Judged.due("v: the beginning alone", x.parallel(16, 14), 0);
        Judged.due("the call", x.parallel(32, 14), 0);
        // the thread is started elsewhere: the beginning is not before
        x = of(s + "new T; call void W.start(Thread); return; } }");
        Judged.due("not before", x.parallel(24, 14), 1);
        Judged.due("nor w", x.parallel(15, 14), 1);
        x = of(s.replace("call void W.v(); return;", "new T; virtual void Thread.start(); return;") + "call void W.v(); return; } }");
        Judged.due("started by the beginning", x.parallel(x.method(x.count(5) - 1, 3), 14), 1);
        Judged.due("S's beginning with it", x.parallel(24, 14), 1);
        // never behind
        x = of(s + "new T; dup; virtual void Thread.start(); virtual void Thread.join(); push 1; ifeq L; call void Main.main(); L: return; } }");
        Judged.due("MAIN is not once", x.parallel(24, 14), 1);
    }

    /** "The TOPS of an instruction in an instance are instructions of MAIN's instance: itself, if that is it; and those that call (or let begin) an instance that is this one, or calls it by way of others" */
    private static void topsOfCalled() {
        String begin = T + "class S { static method void <clinit>() { call void W.w(); return; } } class C extends S { static field int f; } ";
        // w 15, v 16
        String start = "new T; dup; store 1; virtual void Thread.start(); ";
        String join = "load 1; virtual void Thread.join(); ";
        String[] lines = {"call void W.w(); " + start, start + "call void W.w(); ", "call void W.v(); " + start, start + "call void W.v(); ", start + join + "call void W.v(); ", "call void W.v(); " + start + join, "call void W.v(); " + start + join + "call void W.v(); ",
            "getstatic C.f; pop; " + start, start + "getstatic C.f; pop; ", start + join + "getstatic C.f; pop; ", "getstatic C.f; pop; " + start + "getstatic C.f; pop; ", "call void W.w(); " + start + "call void W.v(); ", start + join + "lambda Runnable void W.w(); virtual void Runnable.run(); "};
        int[] due = {0, 1, 0, 1, 0, 0, 1, 0, 1, 0, 1, 1, 0};
        for (int k = 0; k < lines.length; k++) {
            ThreadJudge x = of(Judged.main(begin, lines[k] + "return;"));
            Judged.due("w of " + lines[k], x.parallel(15, 14), due[k]);
        }
    }

    /** "It is BEHIND a thread .., if MAIN is ONCE, the thread is SINGLE, one instruction q alone starts it, in MAIN's instance, ONCE; and there is an instruction there that calls the native join, within no 'catch', other than t, whose receiver's set is the thread's object alone" */
    private static void behindAThread() {
        String start = "new T; store 1; load 1; virtual void Thread.start(); ";
        meets(start + "load 1; virtual void Thread.join(); push 1; pop; return;", "0000" + "11000");
        meets(start + "push 1; pop; load 1; virtual void Thread.join(); return;", "0000" + "11110");
        meets("new T; store 1; load 1; call void Runtime.hook(Thread); load 1; virtual void Thread.join(); return;", "0000" + "110");
        meets(start + "load 1; virtual void Thread.join(); load 1; virtual void Thread.join(); return;", "0000" + "11000");
        meets(start + "load 1; virtual void Thread.join(); L: push 1; ifeq L; return;", "0000" + "11000");
    }

    private static void behindNeedsMainOnce() {
        meets("new T; store 1; load 1; virtual void Thread.start(); load 1; virtual void Thread.join(); push 1; ifeq L; call void Main.main(); L: return;", "1111111111");
    }

    private static void behindNeedsSingle() {
        meets("L: new T; store 1; load 1; virtual void Thread.start(); load 1; virtual void Thread.join(); push 1; ifeq L; return;", "111111111");
        ThreadJudge x = of(Judged.main(T, "string \"T\"; call Class Class.named(String); virtual Object Class.newInstance(); cast Thread; store 1; load 1; virtual void Thread.start(); load 1; virtual void Thread.join(); return;"));
        Judged.due("of newInstance", x.parallel(x.count(6) - 1, 14), 1);
        Judged.due("before it all the same", x.parallel(x.count(6) - 5, 14), 0);
    }

    /** "one instruction q alone starts it, in MAIN's instance" */
    private static void behindNeedsOneStart() {
        String start = "new T; store 1; load 1; virtual void Thread.start(); ";
        meets(start + "load 1; virtual void Thread.start(); load 1; virtual void Thread.join(); return;", "0000" + "11111");
        meets(start + "load 1; call void Runtime.hook(Thread); load 1; virtual void Thread.join(); return;", "0000" + "11111");
        meets("new T; store 1; load 1; call void W.start(Thread); load 1; virtual void Thread.join(); return;", "1111111");
        meets(start + "load 1; virtual void Thread.join(); load 1; call void W.start(Thread); return;", "111111111");
        meets(start + "load 1; virtual void Thread.join(); return; load 1; call void W.start(Thread);", "0000" + "110--");
    }

    /** "ONCE" of q */
    private static void behindNeedsStartOnce() {
        meets("new T; store 1; L: load 1; virtual void Thread.start(); push 1; ifeq L; load 1; virtual void Thread.join(); return;", "00" + "1111111");
        meets("new T; store 1; L: push 1; ifeq L; load 1; virtual void Thread.start(); load 1; virtual void Thread.join(); return;", "000000" + "110");
    }

    /** "calls the native join, within no 'catch', other than t, whose receiver's set is the thread's object alone" */
    private static void behindNeedsJoinAlone() {
        String start = "new T; store 1; load 1; virtual void Thread.start(); ";
        meets(start + "A: load 1; virtual void Thread.join(); B: push 1; pop; return; H: pop; return; catch Throwable A B H;", "0000" + "1111111");
        meets(start + "load 1; A: virtual void Thread.join(); B: push 1; pop; return; H: pop; return; catch NullPointer A B H;", "0000" + "1111111");
        meets(start + "A: load 1; B: virtual void Thread.join(); push 1; pop; return; H: pop; return; catch Throwable A B H;", "0000" + "1100011");
        meets(start + "load 1; virtual void Thread.join(); A: push 1; pop; B: return; H: pop; return; catch Throwable A B H;", "0000" + "1100000");
        meets(start + "push 1; ifeq L; load 1; goto M; L: new U; M: virtual void Thread.join(); return;", "0000" + "1111111");
        meets(start + "new U; virtual void Thread.join(); return;", "0000" + "111");
        meets(start + "null; virtual void Thread.join(); return;", "0000" + "111");
        meets(start + "load 1; call void W.join(Thread); return;", "0000" + "111");
        meets(start + "push 1; ifeq L; load 1; goto M; L: null; M: virtual void Thread.join(); return;", "0000" + "1111110");
        ThreadJudge x = of(Judged.main("class T extends Thread { method void run() { return; } method void join() { return; } } ", start + "load 1; virtual void Thread.join(); return;"));
        meets(x, x.method(19, 3), "a join of its own", "0000111");
        // the 'catch'es of other methods, ahead of MAIN and behind it, are none of its own
        String caught = "static method void c() { A: push 1; pop; B: return; H: pop; return; catch Throwable A B H; catch Cast A B H; } ";
        for (int first = 0; first < 2; first++) {
            for (int within = 0; within < 2; within++) {
                String lines = start + "A: load 1; virtual void Thread.join(); " + (within == 1 ? "B: push 1; " : "push 1; ") + "pop; " + (within == 1 ? "" : "B: ") + "return; H: pop; return; catch Throwable A B H;";
                String other = "class C { " + caught + "} class D { " + caught + "} ";
                String plain = within == 1 ? lines : lines.replace("A: load 1; virtual void Thread.join(); ", "load 1; virtual void Thread.join(); A: ");
                String classes = "class T extends Thread { method void run() { return; } } ";
                x = of(first == 1 ? Judged.main(classes + other, plain) : Judged.main(classes, plain) + " " + other);
                int run = x.method(17, 3);
                int pop = x.method(first == 1 ? 20 : 18, 3) + 7;
                Judged.due("behind a join " + (within == 1 ? "within" : "ahead of") + " a 'catch'", x.parallel(run, pop), within);
            }
        }
        // the join itself is not behind by itself, but by another one
        meets(start + "L: load 1; virtual void Thread.join(); push 1; ifeq L; return;", "0000" + "11000");
    }

    /** "such that every way from MAIN's first instruction to t goes through it, and every such way to it through q" */
    private static void behindNeedsEveryWay() {
        String start = "new T; store 1; load 1; virtual void Thread.start(); ";
        meets(start + "push 1; ifeq L; load 1; virtual void Thread.join(); push 1; pop; L: return;", "0000" + "1111001");
        meets("new T; store 1; push 1; ifeq L; load 1; virtual void Thread.start(); L: load 1; virtual void Thread.join(); return;", "000000" + "111");
        meets("new T; store 1; push 1; ifeq L; load 1; virtual void Thread.start(); load 1; virtual void Thread.join(); L: return;", "000000" + "111");
        meets("new T; store 1; push 1; ifeq L; load 1; virtual void Thread.start(); load 1; virtual void Thread.join(); push 1; pop; return; L: return;", "000000" + "110000");
        // joins on both ways: neither alone is on every way to what is behind both
        meets(start + "push 1; ifeq L; load 1; virtual void Thread.join(); goto M; L: load 1; virtual void Thread.join(); M: return;", "0000" + "111101" + "11".substring(0, 2));
        // a way by a catch around the very first instructions, ahead of q
        ThreadJudge x = of(T + "class Main { static field T t; static method void <clinit>() { new T; putstatic Main.t; return; } static method void main() { A: getstatic Main.t; B: virtual void Thread.start(); J: getstatic Main.t; virtual void Thread.join(); push 1; pop; return; H: pop; goto J; catch Throwable A B H; } }");
        int first = x.method(x.count(5) - 1, 3);
        meets(x, first, "around the start", "0011111" + "00");
        x = of(T + "class Main { static field T t; static method void <clinit>() { new T; putstatic Main.t; return; } static method void main() { getstatic Main.t; A: virtual void Thread.start(); B: getstatic Main.t; virtual void Thread.join(); push 1; pop; return; } }");
        meets(x, x.method(x.count(5) - 1, 3), "no way around the start", "0011000");
        // a way by a catch that goes round the join
        meets(start + "A: push 1; pop; B: load 1; virtual void Thread.join(); H2: push 1; pop; return; H: pop; return; catch Throwable A B H;", "0000" + "1111" + "00011");
    }

    // ---- parallel

    /** "Two instructions in instances may be PARALLEL, if there are threads A, B that run these, A and B not alike, or alike and not SINGLE" */
    private static void parallelThreads() {
        String t = "class T extends Thread { method void run() { call void W.w(); return; } } class U extends Thread { method void run() { return; } } class W { static method void w() { return; } static method void n() { return; } } ";
        // T.run 14, 15; U.run 16; w 17; n 18
        ThreadJudge x = of(Judged.main(t, "new T; virtual void Thread.start(); return;"));
        Judged.due("one single thread with itself", x.parallel(14, 14), 0);
        Judged.due("its run with its w", x.parallel(14, 17), 0);
        Judged.due("what none runs", x.parallel(18, 14), 0);
        Judged.due("nor with itself", x.parallel(18, 18), 0);
        Judged.due("main with itself", x.parallel(x.count(6) - 1, x.count(6) - 1), 0);
        x = of(Judged.main(t, "new T; virtual void Thread.start(); new T; virtual void Thread.start(); return;"));
        Judged.due("two threads with one run", x.parallel(14, 14), 1);
        Judged.due("and one w", x.parallel(17, 15), 1);
        x = of(Judged.main(t, "new T; virtual void Thread.start(); new U; virtual void Thread.start(); return;"));
        Judged.due("T with U", x.parallel(14, 16), 1);
        Judged.due("w with U", x.parallel(16, 17), 1);
        Judged.due("T with T", x.parallel(14, 14), 0);
        x = of(Judged.main(t, "L: new T; virtual void Thread.start(); push 1; ifeq L; new U; virtual void Thread.start(); return;"));
        Judged.due("many of T", x.parallel(14, 14), 1);
        Judged.due("one of U", x.parallel(16, 16), 0);
        Judged.due("w with w", x.parallel(17, 17), 1);
        x = of(Judged.main(t, "call void W.w(); new T; virtual void Thread.start(); call void W.w(); return;"));
        Judged.due("w of main with w of T", x.parallel(17, 17), 1);
        Judged.due("w of main with T", x.parallel(17, 14), 1);
        // one that both run, one that the first alone runs
        x = of(Judged.main("class T extends Thread { method void run() { call void W.m(); call void W.n(); return; } } class U extends Thread { method void run() { call void W.m(); return; } } class W { static method void m() { return; } static method void n() { return; } } ", "new T; virtual void Thread.start(); new U; virtual void Thread.start(); return;"));
        // T.run 14 .. 16, U.run 17, 18, m 19, n 20
        Judged.due("m with n", x.parallel(19, 20), 1);
        Judged.due("n with m", x.parallel(20, 19), 1);
        Judged.due("n with n", x.parallel(20, 20), 0);
        Judged.due("m with m", x.parallel(19, 19), 1);
        Judged.due("n with U", x.parallel(20, 17), 1);
        Judged.due("n with T", x.parallel(20, 14), 0);
        // with thread 0 it does not matter whether the other one is single
        x = of(Judged.main(t, "L: new U; virtual void Thread.start(); push 1; ifeq L; return;"));
        Judged.due("main in the loop", x.parallel(x.count(6) - 4, 16), 1);
    }

    /** "Two instructions in instances may be PARALLEL" of any instances of both methods, whichever were there first */
    private static void parallelInSomeInstances() {
        String t = "class T extends Thread { method void run() { # return; } } class W { static method void w() { return; } static method void v() { call void W.w(); return; } static method void u() { call void W.v(); return; } } ";
        String[] calls = {"call void W.w();", "call void W.v();", "call void W.u();"};
        for (String ofRun : calls) {
            for (String ofMain : calls) {
                for (int later = 0; later < 2; later++) {
                    String start = "new T; virtual void Thread.start(); ";
                    ThreadJudge x = of(1, Judged.main(t.replace("#", ofRun), (later > 0 ? start + ofMain : ofMain + start) + " push 1; pop; return;"));
                    int w = x.method(18, 3);
                    int last = x.count(6) - 1;
                    String what = ofRun + " of run, " + ofMain + (later > 0 ? " behind" : " ahead of") + " the start: ";
                    Judged.due(what + "MAIN's end with w", x.parallel(last, w), 1);
                    Judged.due(what + "w with MAIN's end", x.parallel(w, last), 1);
                    Judged.due(what + "w with w", x.parallel(w, w), later);
                    Judged.due(what + "run with w", x.parallel(14, w), later);
                    Judged.due(what + "w with run", x.parallel(w, 14), later);
                }
            }
        }
    }

    private static void parallelBadInputs() {
        ThreadJudge x = Judged.loaded(Judged.main("", "return; pop;"));
        Judged.due("nothing analysed", x.parallel(14, 14), -1);
        x.analyse(0, 300);
        Judged.due("not come to", x.parallel(14, 15), -1);
        Judged.due("not come to", x.parallel(15, 14), -1);
        Judged.due("none such", x.parallel(14, 16), -1);
        Judged.due("none such", x.parallel(-1, 14), -1);
        Judged.due("fine", x.parallel(14, 14), 0);
        Judged.due("without instances", x.parallel(0, 14), 0);
    }

    // ---- held

    private static int sureSite(ThreadJudge x, int i, int k) {
        return x.object(x.held(i, true, k), 0);
    }

    /** "SURELY HELD at an instruction of an instance: of each 53 in its row of monitors the object that is there alone in the set that it takes, if that is SINGULAR" */
    private static void surelyHeld() {
        ThreadJudge x = of(Judged.main("", "new Object; store 1; load 1; enter; string \"a\"; enter; push 1; pop; null; exit; push 1; pop; null; exit; return;"));
        int m = 14;
        int[] due = {0, 0, 0, 0, 1, 1, 2, 2, 2, 2, 1, 1, 1, 1, 0};
        for (int k = 0; k < due.length; k++) {
            Judged.due("surely at " + k, x.held(m + k, true, -1), due[k]);
            Judged.due("maybe at " + k, x.held(m + k, false, -1), due[k]);
        }
        Judged.due("first", sureSite(x, m + 6, 0), 14);
        Judged.due("second", sureSite(x, m + 6, 1), 2000);
        Judged.due("no third", x.held(m + 6, true, 2), -1);
        Judged.due("not - 2", x.held(m + 6, true, -2), -1);
        // two objects, or one that is not singular, or none
        x = of(Judged.main("", "push 1; ifeq L; string \"a\"; goto M; L: string \"b\"; M: enter; push 1; pop; null; exit; return;"));
        Judged.due("two: surely none", x.held(x.count(6) - 5, true, -1), 0);
        Judged.due("two: maybe both", x.held(x.count(6) - 5, false, -1), 2);
        x = of(Judged.main("", "L: new Object; enter; push 1; pop; null; exit; goto L;"));
        Judged.due("not singular: surely none", x.held(x.count(6) - 5, true, -1), 0);
        Judged.due("not singular: maybe", x.held(x.count(6) - 5, false, -1), 1);
        x = of(Judged.main("", "null; enter; push 1; pop; null; exit; return;"));
        Judged.due("null: none", x.held(16, true, -1) + x.held(16, false, -1), 0);
        // not come to; without instances
        x = of(Judged.main("class C { static method void c() { string \"a\"; enter; null; exit; return; } } ", "return; pop;"));
        Judged.due("without instances surely 0", x.held(16, true, -1), 0);
        Judged.due("without instances maybe 0", x.held(16, false, -1), 0);
        Judged.due("not come to", x.held(20, true, -1), -1);
        Judged.due("none such", x.held(21, true, -1), -1);
        // in all its instances
        x = of(2, Judged.main("class K { method void m(Object) { load 1; enter; push 1; pop; null; exit; return; } } ", "new K; string \"a\"; virtual void K.m(Object); new K; string \"b\"; virtual void K.m(Object); return;"));
        Judged.due("instances", x.reached(17, 0), 2);
        Judged.due("surely in all", x.held(16, true, -1), 0);
        Judged.due("maybe in some", x.held(16, false, -1), 2);
        x = of(2, Judged.main("class K { method void m(Object) { load 1; enter; push 1; pop; null; exit; return; } } ", "new K; string \"a\"; virtual void K.m(Object); new K; string \"a\"; virtual void K.m(Object); return;"));
        Judged.due("alike in all", x.held(16, true, -1), 1);
    }

    /** "An instance that is 'synchronized' holds its LOCK: the CLASS of its class, if it is static, else its receiver's." .. "its LOCK likewise (of a receiver: the set that local 0 takes ahead of the first instruction, whatever comes there by a way back, too)" */
    private static void surelyHeldByLock() {
        ThreadJudge x = of(Judged.main("class K { static synchronized method void s() { return; } synchronized method void m() { return; } } class L extends K { } ", "call void L.s(); new L; virtual void K.m(); return;"));
        Judged.due("the CLASS of its class", sureSite(x, 14, 0), 3019);
        Judged.due("alone", x.held(14, true, -1), 1);
        Judged.due("the receiver", sureSite(x, 15, 0), 17);
        Judged.due("not at the call", x.held(18, true, -1), 0);
        x = of(Judged.main("class K { synchronized method void m() { return; } } ", "L: new K; virtual void K.m(); goto L;"));
        Judged.due("not singular", x.held(14, true, -1), 0);
        Judged.due("maybe", x.held(14, false, -1), 1);
        x = of(Judged.main("class K { synchronized method void m() { return; } } ", "new K; virtual void K.m(); new K; virtual void K.m(); return;"));
        Judged.due("two receivers", x.held(14, true, -1), 0);
        Judged.due("maybe both", x.held(14, false, -1), 2);
        // what comes to local 0 by a way back counts
        x = of(Judged.main("class K { synchronized method void m() { L: push 1; pop; string \"a\"; store 0; goto L; } } ", "new K; virtual void K.m(); return;"));
        Judged.due("a way back", x.held(14, true, -1), 0);
        Judged.due("maybe both", x.held(14, false, -1), 2);
        x = of(Judged.main("class K { synchronized method void m() { push 1; pop; string \"a\"; store 0; L: push 1; pop; goto L; } } ", "new K; virtual void K.m(); return;"));
        Judged.due("no way back to the first", sureSite(x, x.method(17, 3) + 6, 0), x.method(18, 3));
        Judged.due("that alone", x.held(14 + 6, false, -1), 1);
    }

    /** "and what is SURELY HELD at all instructions that call the instance (nothing, if it is MAIN, a <clinit>, or is started; of all sets for which this holds the greatest)" */
    private static void surelyHeldByCallers() {
        String w = "class W { static method void w() { return; } static method void v() { call void W.w(); return; } static method void r() { push 1; ifeq L; call void W.r(); L: return; } } ";
        // w 14, v 15, 16, r 17..20
        String in = "string \"a\"; enter; @ null; exit; ";
        ThreadJudge x = of(Judged.main(w, in.replace("@", "call void W.v();") + "return;"));
        Judged.due("in v", x.held(15, true, -1), 1);
        Judged.due("in w", x.held(14, true, -1), 1);
        x = of(Judged.main(w, in.replace("@", "call void W.v();") + "call void W.w(); return;"));
        Judged.due("w: not at all", x.held(14, true, -1), 0);
        Judged.due("v", x.held(15, true, -1), 1);
        Judged.due("w: maybe", x.held(14, false, -1), 1);
        x = of(Judged.main(w, in.replace("@", "call void W.v();") + in.replace("@", "call void W.w();") + "return;"));
        Judged.due("w: at both", x.held(14, true, -1), 1);
        x = of(Judged.main(w, in.replace("@", "call void W.r();") + "return;"));
        Judged.due("r calls itself: the greatest", x.held(18, true, -1), 1);
        x = of(Judged.main(w, in.replace("@", "call void W.v();") + in.replace("\"a\"", "\"b\"").replace("@", "call void W.w();") + "return;"));
        Judged.due("w: of unlike ones none", x.held(14, true, -1), 0);
        // a <clinit> has nothing of what lets it begin surely, but maybe
        x = of(Judged.main("class C { static field int f; static method void <clinit>() { return; } } ", in.replace("@", "getstatic C.f; pop;") + "return;"));
        Judged.due("<clinit> surely", x.held(14, true, -1), 0);
        Judged.due("<clinit> maybe", x.held(14, false, -1), 1);
        // MAIN has nothing
        x = of(Judged.main("", "push 1; ifeq L; " + in.replace("@", "call void Main.main();") + "L: return;"));
        Judged.due("MAIN surely", x.held(14, true, -1), 0);
        Judged.due("MAIN maybe", x.held(14, false, -1), 1);
        // what is started has nothing, though it is called, too
        String t = "class T extends Thread { method void run() { return; } } ";
        x = of(Judged.main(t, in.replace("@", "new T; virtual void Thread.start();") + "return;"));
        Judged.due("run surely", x.held(14, true, -1), 0);
        Judged.due("run maybe", x.held(14, false, -1), 0);
        x = of(Judged.main(t, "new T; store 1; load 1; virtual void Thread.start(); " + in.replace("@", "load 1; virtual void Thread.run();") + "return;"));
        Judged.due("started and called", x.held(14, true, -1), 0);
        Judged.due("maybe by the call", x.held(14, false, -1), 1);
        x = of(Judged.main(t, in.replace("@", "new T; virtual void Thread.run();") + "return;"));
        Judged.due("called alone", x.held(14, true, -1), 1);
        // by contexts each for itself, all together for the instruction
        x = of(1, Judged.main(w, in.replace("@", "call void W.w();") + "call void W.w(); return;"));
        Judged.due("in all instances", x.held(14, true, -1), 0);
        Judged.due("in some", x.held(14, false, -1), 1);
    }

    /** "MAY BE HELD: of each 53 in the row all objects that it takes, all of its LOCK, and what MAY BE HELD at any instruction that calls it, or lets it begin." */
    private static void mayBeHeld() {
        ThreadJudge x = of(Judged.main("class S { static method void <clinit>() { call void W.w(); return; } } class C extends S { static field int f; static synchronized method void s() { getstatic C.f; pop; return; } } class W { static method void w() { return; } } ", "string \"a\"; enter; call void C.s(); null; exit; return;"));
        // <clinit> 14, 15; s 16..18; w 19
        Judged.due("s", x.held(16, false, -1), 2);
        Judged.due("<clinit> of what C extends", x.held(14, false, -1), 2);
        Judged.due("w", x.held(19, false, -1), 2);
        Judged.due("w surely", x.held(19, true, -1), 0);
        Judged.due("the string", x.object(x.held(19, false, 0), 0), 2000);
        Judged.due("the CLASS", x.object(x.held(19, false, 1), 0), 3020);
    }

    // ---- escapes, races

    /** "An object ESCAPES: what a static field holds, what is started, and what fields, elements, LAMBDAS of these hold (or HAS), and so on." */
    private static void escapes() {
        String k = "class K { field Object o; static field Object s; static method void l(Object) { return; } } ";
        ThreadJudge x = of(2, Judged.main(k, "new K; store 1; load 1; putstatic K.s; load 1; push 1; array Object; store 2; load 2; put K.o; load 2; push 0; string \"a\"; lambda Runnable void K.l(Object); setelement; "
            + "new Thread; store 3; load 3; string \"b\"; lambda Runnable void K.l(Object); special void Thread.<init>(Runnable); load 3; virtual void Thread.start(); new Thread; string \"c\"; lambda Runnable void K.l(Object); special void Thread.<init>(Runnable); new K; dup; string \"d\"; put K.o; pop; new Thread; call void Runtime.hook(Thread); push 1; array Object; push 0; string \"e\"; setelement; return;"));
        for (int o = 0; o < x.count(9); o++) {
            int site = x.object(o, 0);
            if (site >= 2000) {
                Judged.due("escapes: " + site, x.object(o, 4), site < 2002 ? 1 : 0);
            }
        }
        int[] due = {1, 1, 1, 1, 1, 0, 0, 0, 1, 0};
        int n = 0;
        for (int o = 0; o < x.count(9); o++) {
            if (x.object(o, 0) < 2000) {
                Judged.due("escapes, site " + n, x.object(o, 4), due[n++]);
            }
        }
        Judged.due("sites", n, due.length);
        // what is started escapes in a way without fields, too
        x = of(Judged.main(k, "new Thread; virtual void Thread.start(); new Object; pop; return;"));
        Judged.due("the thread", x.object(0, 4), 1);
        Judged.due("not the other", x.object(1, 4), 0);
    }

    private static final String RUN = "class T extends Thread { method void run() { call void Main.w(); return; } } class K { field int n; final field int f; volatile field int v; field K k; field int o; method void <init>() { load 0; push 1; put K.f; return; } } ";

    private static ThreadJudge race(String fields, String w, String main) {
        return of(RUN + "class Main { static field K k; " + fields + " static method void w() { " + w + " return; } static method void main() { new K; putstatic Main.k; new T; virtual void Thread.start(); " + main + " return; } }");
    }

    /** "ACCESSES are 38 to 41 of fields neither final nor volatile, 44, 45; 39, 41, 45 WRITE. Two accesses (also one with itself) RACE, if instances have them where they may be PARALLEL, one writes, both are of one field" */
    private static void races() {
        Judged.due("write, read", race("static field int n;", "push 1; putstatic Main.n;", "getstatic Main.n; pop;").count(12), 1);
        Judged.due("read, write", race("static field int n;", "getstatic Main.n; pop;", "push 1; putstatic Main.n;").count(12), 1);
        Judged.due("write, write", race("static field int n;", "push 1; putstatic Main.n;", "push 1; putstatic Main.n;").count(12), 1);
        Judged.due("read, read", race("static field int n;", "getstatic Main.n; pop;", "getstatic Main.n; pop;").count(12), 0);
        Judged.due("another field", race("static field int n; static field int o;", "push 1; putstatic Main.o;", "getstatic Main.n; pop;").count(12), 0);
        Judged.due("volatile", race("static volatile field int n;", "push 1; putstatic Main.n;", "push 1; putstatic Main.n;").count(12), 0);
        Judged.due("final", of(RUN + "class Main { static final field int n; static method void <clinit>() { new T; virtual void Thread.start(); push 1; putstatic Main.n; return; } static method void w() { getstatic Main.n; pop; return; } static method void main() { return; } }").count(12), 0);
        Judged.due("put, get", race("", "getstatic Main.k; push 1; put K.n;", "getstatic Main.k; get K.n; pop;").count(12), 1);
        Judged.due("put, put", race("", "getstatic Main.k; push 1; put K.n;", "getstatic Main.k; push 1; put K.n;").count(12), 1);
        Judged.due("get, get", race("", "getstatic Main.k; get K.n; pop;", "getstatic Main.k; get K.n; pop;").count(12), 0);
        Judged.due("of another field", race("", "getstatic Main.k; push 1; put K.o;", "getstatic Main.k; get K.n; pop;").count(12), 0);
        Judged.due("volatile field", race("", "getstatic Main.k; push 1; put K.v;", "getstatic Main.k; get K.v; pop;").count(12), 0);
        Judged.due("final field", race("", "getstatic Main.k; get K.f; pop;", "getstatic Main.k; special void K.<init>();").count(12), 0);
        // one with itself
        ThreadJudge x = of(RUN.replace("call void Main.w(); return;", "push 1; putstatic Main.n; return;") + "class Main { static field int n; static method void main() { L: new T; virtual void Thread.start(); goto L; } }");
        Judged.due("one with itself", x.count(12), 1);
        Judged.due("first", x.race(0, 0), 15);
        Judged.due("second", x.race(0, 1), 15);
        x = of(RUN.replace("call void Main.w(); return;", "push 1; putstatic Main.n; return;") + "class Main { static field int n; static method void main() { new T; virtual void Thread.start(); return; } }");
        Judged.due("not of a single thread", x.count(12), 0);
        Judged.due("not parallel", race("static field int n;", "push 1; pop;", "getstatic Main.n; push 1; putstatic Main.n; pop;").count(12), 0);
    }

    /** "or both of elements" */
    private static void racesOfElements() {
        ThreadJudge x = race("static field int[] r;", "getstatic Main.r; push 0; push 1; setelement;", "getstatic Main.r; push 1; element; pop;");
        Judged.due("no array there", x.count(12), 0);
        x = of(RUN + "class Main { static field int[] r; static field Object[] q; static method void w() { getstatic Main.r; push 0; push 1; setelement; getstatic Main.q; push 0; null; setelement; return; } static method void main() { push 1; array int; putstatic Main.r; push 1; array Object; putstatic Main.q; new T; virtual void Thread.start(); getstatic Main.r; push 1; element; pop; getstatic Main.q; push 1; element; pop; return; } }");
        Judged.due("each with its own array", x.count(12), 2);
        Judged.due("elements", x.race(0, 2), -1);
        Judged.due("elements", x.race(1, 2), -1);
        // an element and a field of one object are not of one place
        x = race("static field K[] r;", "getstatic Main.k; push 1; put K.n;", "getstatic Main.r; push 0; null; setelement;");
        Judged.due("no race", x.count(12), 0);
    }

    /** "static, or some object that ESCAPES is in both of the receivers' (arrays') sets there" */
    private static void racesNeedEscaping() {
        // one object that both take, which escapes by the thread's field alone
        String t = "class T extends Thread { field K k; method void run() { load 0; get T.k; push 1; put K.n; return; } } class K { field int n; } ";
        ThreadJudge x = of(Judged.main(t, "new T; store 1; new K; store 2; load 1; load 2; put T.k; load 1; virtual void Thread.start(); load 2; get K.n; pop; return;"));
        Judged.due("escapes by what is started", x.count(12), 1);
        x = of(Judged.main(t, "new T; store 1; new K; store 2; load 1; new K; put T.k; load 1; virtual void Thread.start(); load 2; get K.n; pop; return;"));
        Judged.due("another object", x.count(12), 0);
        // both take what one instruction makes, but it does not escape
        String local = "class T extends Thread { method void run() { call void K.m(); return; } } class K { field int n; static method void m() { new K; push 1; put K.n; return; } } ";
        x = of(Judged.main(local, "new T; virtual void Thread.start(); call void K.m(); return;"));
        Judged.due("does not escape", x.count(12), 0);
        x = of(Judged.main(local.replace("push 1; put K.n", "dup; putstatic K.s; push 1; put K.n").replace("field int n;", "field int n; static volatile field K s;"), "new T; virtual void Thread.start(); call void K.m(); return;"));
        Judged.due("escapes", x.count(12), 1);
        // static: no object is needed
        x = of(Judged.main("class T extends Thread { method void run() { push 1; putstatic K.s; return; } } class K { static field int s; } ", "new T; virtual void Thread.start(); getstatic K.s; pop; return;"));
        Judged.due("static", x.count(12), 1);
    }

    /** "and nothing is SURELY HELD at both" */
    private static void racesAndMonitors() {
        String a = "string \"a\"; enter; ";
        String b = "string \"b\"; enter; ";
        String e = "null; exit; ";
        String put = "push 1; putstatic Main.n; ";
        Judged.due("one monitor at both", race("static field int n;", a + put + e, a + put + e).count(12), 0);
        Judged.due("at one alone", race("static field int n;", a + put + e, put).count(12), 1);
        Judged.due("unlike ones", race("static field int n;", a + put + e, b + put + e).count(12), 1);
        Judged.due("one of two", race("static field int n;", a + b + put + e + e, b + put + e).count(12), 0);
        Judged.due("before it is held", race("static field int n;", put + a + e, a + put + e).count(12), 1);
        Judged.due("behind it", race("static field int n;", a + e + put, a + put + e).count(12), 1);
        Judged.due("not surely", race("static field int n;", "push 1; ifeq L; string \"a\"; goto M; L: string \"b\"; M: enter; " + put + e, a + put + e).count(12), 1);
    }

    /** "The k-th RACE, by its first instruction (the lesser one), then the second" */
    private static void racesInOrder() {
        ThreadJudge x = race("static field int n; static field int o;", "getstatic Main.o; pop; push 1; putstatic Main.n;", "getstatic Main.n; pop; push 1; putstatic Main.o; push 1; putstatic Main.n;");
        int w = x.method(19, 3);
        int m = x.method(20, 3) + 4;
        int[][] due = {{w, m + 3, 7}, {w + 3, m, 6}, {w + 3, m + 5, 6}};
        Judged.due("races", x.count(12), 3);
        for (int k = 0; k < 3; k++) {
            for (int what = 0; what < 3; what++) {
                Judged.due("race " + k + ", " + what, x.race(k, what), due[k][what] + (what == 2 ? 1 : 0));
            }
        }
        Judged.due("no what", x.race(0, 3), -1);
        Judged.due("no what", x.race(0, -1), -1);
        Judged.due("no more", x.race(3, 0), -1);
        Judged.due("none", x.race(-1, 0), -1);
    }

    // ---- knots, waits

    private static final String AB = "class Main { static field Object a; static field Object b; static field Object c; static method void go(Object, Object) { load 0; enter; load 1; enter; null; exit; null; exit; return; } static method void ab() { getstatic Main.a; enter; getstatic Main.b; enter; null; exit; null; exit; return; } static method void bc() { getstatic Main.b; enter; getstatic Main.c; enter; null; exit; null; exit; return; } static method void ca() { getstatic Main.c; enter; getstatic Main.a; enter; null; exit; null; exit; return; } static method void ba() { getstatic Main.b; enter; getstatic Main.a; enter; null; exit; null; exit; return; } "
        + "static method void main() { new Object; putstatic Main.a; new Object; putstatic Main.b; new Object; putstatic Main.c; new Thread; virtual void Thread.start(); ";

    /** "An object o is held WHILE another one p is wanted at an instruction: o MAY BE HELD there, and it takes p as 53 .." "It is a KNOT, if p leads to o (or is it) by further ones, and there are two threads or more." */
    private static void knots() {
        // go 14.., ab 23, bc 32, ca 41, ba 50: the second 53 is the fourth instruction
        ThreadJudge x = of(AB + "call void Main.ab(); return; } }");
        Judged.due("one order", x.count(13), 0);
        x = of(AB + "call void Main.ab(); call void Main.bc(); return; } }");
        Judged.due("a row", x.count(13), 0);
        x = of(AB + "call void Main.ab(); call void Main.ba(); return; } }");
        Judged.due("a ring of two", x.count(13), 2);
        Judged.due("first", x.knot(0, 0), 26);
        Judged.due("held", x.knot(0, 1), 0);
        Judged.due("wanted", x.knot(0, 2), 1);
        Judged.due("second", x.knot(1, 0), 53);
        Judged.due("held", x.knot(1, 1), 1);
        Judged.due("wanted", x.knot(1, 2), 0);
        x = of(AB + "call void Main.ab(); call void Main.bc(); call void Main.ca(); return; } }");
        Judged.due("a ring of three", x.count(13), 3);
        Judged.due("first", x.knot(0, 0), 26);
        Judged.due("second", x.knot(1, 0), 35);
        Judged.due("third", x.knot(2, 0), 44);
        Judged.due("no what", x.knot(0, 3), -1);
        Judged.due("no what", x.knot(0, -1), -1);
        Judged.due("no more", x.knot(3, 0), -1);
        Judged.due("none", x.knot(-1, 0), -1);
        // "or calls an instance with p in its LOCK"
        String k = "class K { field K k; synchronized method void m() { load 0; get K.k; virtual void K.n(); return; } synchronized method void n() { return; } } ";
        x = of(Judged.main(k, "new K; store 1; new K; store 2; load 1; load 2; put K.k; load 2; load 1; put K.k; new Thread; virtual void Thread.start(); load 1; virtual void K.m(); load 2; virtual void K.m(); return;"));
        Judged.due("by LOCKS", x.count(13), 2);
        Judged.due("at the call", x.knot(0, 0), 16);
        Judged.due("held", x.knot(0, 1) * 10 + x.knot(0, 2), 1);
        Judged.due("the other", x.knot(1, 1) * 10 + x.knot(1, 2), 10);
        // "or calls the native wait of p": what it holds besides
        String w = "class Main { static field Object a; static field Object b; static method void main() { new Object; putstatic Main.a; new Object; putstatic Main.b; new Thread; virtual void Thread.start(); getstatic Main.a; enter; getstatic Main.b; enter; getstatic Main.@; virtual void Object.#(); null; exit; null; exit; return; } }";
        x = of(w.replace("@", "a").replace("#", "wait"));
        Judged.due("b is held while a is wanted", x.count(13), 2);
        Judged.due("53", x.knot(0, 1) * 10 + x.knot(0, 2), 1);
        Judged.due("wait", x.knot(1, 1) * 10 + x.knot(1, 2), 10);
        Judged.due("a is held while b is", of(w.replace("@", "b").replace("#", "wait")).count(13), 0);
        Judged.due("notify wants none", of(w.replace("@", "a").replace("#", "notify")).count(13), 0);
    }

    /** "but not o and p alike and SINGULAR" */
    private static void knotsOfOneKind() {
        String k = "class Main { static field Object a; static method void main() { new Thread; virtual void Thread.start(); @ getstatic Main.a; enter; getstatic Main.a; enter; null; exit; null; exit; return; } }";
        Judged.due("singular", of(k.replace("@", "new Object; putstatic Main.a;")).count(13), 0);
        ThreadJudge x = of(k.replace("@", "L: new Object; putstatic Main.a; push 1; ifeq L;"));
        Judged.due("many", x.count(13), 1);
        Judged.due("with itself", x.knot(0, 1) * 10 + x.knot(0, 2), 11);
        x = of(k.replace("@", "new Object; putstatic Main.a; push 1; ifeq L; new Object; putstatic Main.a; L:"));
        Judged.due("two singular ones", x.count(13), 2);
        // of what is wanted only that which leads back
        x = of(AB + "getstatic Main.a; push 1; ifeq L; getstatic Main.b; goto M; L: getstatic Main.c; M: call void Main.go(Object, Object); call void Main.ba(); return; } }");
        Judged.due("b leads back, c does not", x.count(13), 2);
        Judged.due("a, b", x.knot(0, 1) * 10 + x.knot(0, 2), 1);
        Judged.due("b, a", x.knot(1, 1) * 10 + x.knot(1, 2), 10);
        x = of(AB + "getstatic Main.a; push 1; ifeq L; getstatic Main.b; goto M; L: getstatic Main.c; M: call void Main.go(Object, Object); call void Main.ca(); return; } }");
        Judged.due("c leads back, b does not", x.count(13), 2);
        Judged.due("a, c", x.knot(0, 1) * 10 + x.knot(0, 2), 2);
        // a row by way of itself is no knot, if it is singular
        x = of(AB + "getstatic Main.a; getstatic Main.a; call void Main.go(Object, Object); getstatic Main.a; getstatic Main.b; call void Main.go(Object, Object); return; } }");
        Judged.due("a and a, a and b", x.count(13), 0);
    }

    /** "and there are two threads or more" */
    private static void knotsNeedTwoThreads() {
        String one = AB.replace("new Thread; virtual void Thread.start(); ", "");
        Judged.due("one thread", of(one + "call void Main.ab(); call void Main.ba(); return; } }").count(13), 0);
        Judged.due("no knot", of(one + "call void Main.ab(); call void Main.ba(); return; } }").knot(0, 0), -1);
        Judged.due("two", of(AB + "call void Main.ab(); call void Main.ba(); return; } }").count(13), 2);
        Judged.due("hooked", of(one + "call void Main.ab(); call void Main.ba(); new Thread; call void Runtime.hook(Thread); return; } }").count(13), 2);
    }

    /** "The k-th KNOT, by instruction, then o, then p" */
    private static void knotsInOrder() {
        ThreadJudge x = of(AB + "getstatic Main.a; store 1; L: load 1; getstatic Main.b; call void Main.go(Object, Object); getstatic Main.c; store 1; getstatic Main.b; getstatic Main.a; call void Main.go(Object, Object); getstatic Main.b; getstatic Main.c; call void Main.go(Object, Object); push 1; ifeq L; return; } }");
        // the first local of go: a, c, b; the second: b, a, c
        int[][] due = {{0, 1}, {0, 2}, {1, 0}, {1, 2}, {2, 0}, {2, 1}};
        Judged.due("knots", x.count(13), 6);
        for (int k = 0; k < 6; k++) {
            Judged.due("instruction " + k, x.knot(k, 0), 17);
            Judged.due("o of " + k, x.knot(k, 1), due[k][0]);
            Judged.due("p of " + k, x.knot(k, 2), due[k][1]);
        }
    }

    /** "A call of the native wait is LOOSE (1) if the set of its receiver is not one SINGULAR object that is SURELY HELD there; RASH (2) if no way leads from it to itself." */
    private static void waits() {
        String[] lines = {"string \"a\"; enter; string \"a\"; virtual void Object.wait(); null; exit; return;", "string \"a\"; enter; L: string \"a\"; virtual void Object.wait(); push 1; ifeq L; null; exit; return;",
            "string \"a\"; virtual void Object.wait(); return;", "L: string \"a\"; virtual void Object.wait(); goto L;", "string \"a\"; enter; L: string \"b\"; virtual void Object.wait(); push 1; ifeq L; null; exit; return;",
            "string \"a\"; enter; L: push 1; ifeq M; string \"a\"; goto N; M: string \"b\"; N: virtual void Object.wait(); push 1; ifeq L; null; exit; return;", "M: new Object; store 1; load 1; enter; L: load 1; virtual void Object.wait(); push 1; ifeq L; null; exit; goto M;",
            "string \"a\"; enter; A: string \"a\"; B: virtual void Object.wait(); null; exit; return; H: pop; goto A; catch Throwable A B H;"};
        int[] due = {2, 0, 3, 1, 1, 1, 1, 2};
        for (int k = 0; k < lines.length; k++) {
            ThreadJudge x = of(Judged.main("", lines[k]));
            Judged.due("waits of " + lines[k], x.count(14), due[k] > 0 ? 1 : 0);
            Judged.due("what it is: " + lines[k], x.waits(0, 1), due[k] > 0 ? due[k] : -1);
            Judged.due("no more", x.waits(1, 0), -1);
        }
        // in some instance
        ThreadJudge x = of(1, Judged.main("class K { static method void w(Object) { L: load 0; virtual void Object.wait(); goto L; } } ", "string \"a\"; enter; string \"a\"; call void K.w(Object); null; exit; string \"a\"; call void K.w(Object); return;"));
        Judged.due("loose in one of two", x.count(14), 1);
        Judged.due("instruction", x.waits(0, 0), 15);
        Judged.due("loose", x.waits(0, 1), 1);
        x = of(1, Judged.main("class K { static method void w(Object) { L: load 0; virtual void Object.wait(); goto L; } } ", "string \"a\"; call void K.w(Object); string \"a\"; enter; string \"a\"; call void K.w(Object); null; exit; return;"));
        Judged.due("loose in the first of two", x.waits(0, 1), 1);
        x = of(1, Judged.main("class K { static method void w(Object) { L: load 0; virtual void Object.wait(); goto L; } } ", "string \"a\"; enter; string \"a\"; call void K.w(Object); string \"a\"; call void K.w(Object); null; exit; return;"));
        Judged.due("in none of two", x.count(14), 0);
        x = of(1, Judged.main("class K { static method void w(Object) { L: load 0; virtual void Object.wait(); goto L; } } ", "string \"a\"; enter; string \"a\"; call void K.w(Object); null; exit; string \"a\"; call void K.w(Object); return;"));
        Judged.due("no what", x.waits(0, 2), -1);
        Judged.due("no what", x.waits(0, -1), -1);
        Judged.due("none", x.waits(-1, 0), -1);
        // a call of null, or of another wait, is none of the native one
        Judged.due("null", of(Judged.main("", "null; virtual void Object.wait(); return;")).count(14), 0);
        Judged.due("its own wait", of(Judged.main("class K { method void wait() { return; } } ", "new K; virtual void Object.wait(); return;")).count(14), 0);
        Judged.due("by 50", of(Judged.main("class K { method void wait() { load 0; special void Object.wait(); return; } } ", "new K; virtual void Object.wait(); return;")).count(14), 1);
        Judged.due("notify", of(Judged.main("", "string \"a\"; virtual void Object.notify(); return;")).count(14), 0);
        // each instruction once, in order
        x = of(Judged.main("", "string \"a\"; virtual void Object.wait(); string \"b\"; virtual void Object.wait(); return;"));
        Judged.due("two", x.count(14), 2);
        Judged.due("first", x.waits(0, 0), 15);
        Judged.due("second", x.waits(1, 0), 17);
    }
}
