/** THE MACHINE: things, steps, limits, classes that begin, numbers, what is thrown, monitors, threads, natives: sentence by sentence. */
public final class StepsTest {
    private static final String P = " call void Out.print(int); ";

    public static void main(String[] args) {
        atTheBeginning();
        neverSet();
        oneInstruction();
        fourHundredThings();
        thirtyFrames();
        twelveThreads();
        overAndFull();
        whatBegins();
        howItBegins();
        doneAnew();
        othersWait();
        thisThreadIsAtIt();
        aheadOfTheLock();
        endedByWhatItLetsGo();
        beginsByNatives();
        mainsClass();
        numbers();
        comparisons();
        nullWhereAThingIsWanted();
        sizesAndIndexes();
        storeCastIs();
        noneSelected();
        newThings();
        firstCatch();
        framesGo();
        clinitsGo();
        threadEnds();
        uncaughtOnce();
        enterAndExit();
        lastThingEntered();
        callsWithoutLocks();
        locks();
        lockOfFirstFrames();
        waitAndNotify();
        longestIsTold();
        startAndState();
        join();
        hooksBegin();
        hooksAreTooMany();
        named();
        newInstance();
        find();
        invoke();
        oneThingEach();
        said();
        Judged.end();
    }

    private static ThreadJudge begun(String text) {
        ThreadJudge x = Judged.loaded(text);
        Judged.yes("begin", x.begin());
        return x;
    }

    private static ThreadJudge begun(String classes, String lines) {
        return begun(Judged.main(classes, lines));
    }

    private static ThreadJudge fields(String classes, String fields, String lines) {
        return begun(classes + " class Main { " + fields + " static method void main() { " + lines + " } }");
    }

    private static void steps(ThreadJudge x, int t, int n) {
        for (int k = 0; k < n; k++) {
            Judged.due("step " + k + " of thread " + t, x.step(t), 1);
        }
    }

    /** Runs a thread until it stands at an instruction. */
    private static void until(ThreadJudge x, int t, int i) {
        for (int k = 0; k < 3000 && x.state(t, 2) != i && x.step(t) == 1; k++) {
            continue;
        }
        Judged.due("comes to", x.state(t, 2), i);
    }

    private static void says(String classes, String lines, int... due) {
        ThreadJudge x = begun(classes, lines);
        x.run(2000, 1);
        Judged.due("how many said by " + lines, x.count(20), due.length);
        for (int k = 0; k < due.length; k++) {
            Judged.due("said " + k + " by " + lines, x.said(k), due[k]);
        }
        Judged.due("ended " + lines, x.state(0, 0), 4);
    }

    /** "THINGS, are numbered from 0 on as they are made" .. "At the beginning there are none, no class has begun, THREAD 0 is there with MAIN's frame (the class of MAIN begins first)." */
    private static void atTheBeginning() {
        ThreadJudge x = begun("class A { } ", "new A; string \"a\"; push 2; array A; return;");
        Judged.due("steps", x.count(17), 0);
        Judged.due("things", x.count(18), 0);
        Judged.due("threads", x.count(19), 1);
        Judged.due("said", x.count(20), 0);
        Judged.due("clashes", x.count(21), 0);
        Judged.due("deadlocks", x.count(22), 0);
        Judged.due("began: Main and what it extends", x.count(23), 2);
        Judged.due("not full", x.count(24), 0);
        Judged.due("no thing", x.thing(0, 0), -1);
        Judged.due("state", x.state(0, 0), 0);
        Judged.due("frames", x.state(0, 1), 1);
        Judged.due("instruction", x.state(0, 2), 14);
        Judged.due("method", x.state(0, 3), 17);
        Judged.due("no thread 1", x.state(1, 0), -1);
        steps(x, 0, 4);
        Judged.due("A", x.thing(0, 0), 19);
        Judged.due("String", x.thing(1, 0), 2);
        Judged.due("A[]", x.thing(2, 0), -22);
        Judged.due("no more", x.thing(3, 0), -1);
        Judged.yes("begin anew", x.begin());
        Judged.due("things are gone", x.count(18) + x.count(17), 0);
        Judged.due("back at the first", x.state(0, 2), 14);
        Judged.due("A has not begun", x.count(23), 2);
    }

    /** "a field, an element, a local that was never set is 0, or null" */
    private static void neverSet() {
        ThreadJudge x = begun("class A { field int n; field A a; field int[] r; static field int s; static field A t; } ", "new A; push 2; array int; push 2; array A; pop; return;");
        steps(x, 0, 5);
        Judged.due("number", x.value(0, 1), 0);
        Judged.due("reference", x.value(0, 2), -1);
        Judged.due("array", x.value(0, 3), -1);
        Judged.due("static number", x.value(0, 4), 0);
        Judged.due("static reference", x.value(0, 5), -1);
        Judged.due("element", x.value(1, -1) + x.value(1, -2), 0);
        Judged.due("element", x.value(2, -1) + x.value(2, -2), -2);
        for (int k = 0; k < 10; k++) {
            Judged.due("local", x.local(0, k), 0);
        }
        says("class A { field int n; field A a; static field int s; static field A t; } ", "new A; get A.n;" + P + "new A; get A.a; ifnull L; return; L: getstatic A.s;" + P + "getstatic A.t; ifnull M; return; M: push 1; array int; push 0; element;" + P + "push 1; array A; push 0; element; ifnull N; return; N: push 9;" + P + "return;", 0, 0, 0, 9);
        // set in one run, not in the next
        x = begun("class A { static field int s; field int n; } ", "getstatic A.s; pop; push 7; putstatic A.s; new A; dup; push 8; put A.n; push 5; store 3; return;");
        steps(x, 0, 10);
        Judged.due("set", x.value(0, 1) * 10 + x.value(0, 2), 78);
        x.begin();
        Judged.due("not set", x.value(0, 1), 0);
        Judged.due("local not set", x.local(0, 3), 0);
        steps(x, 0, 5);
        Judged.due("field not set", x.value(0, 2), 0);
        // a frame's locals beside the values
        x = begun("class A { static method void a(int) { push 3; store 2; return; } } ", "push 5; call void A.a(int); push 5; call void A.a(int); return;");
        steps(x, 0, 7);
        Judged.due("of the second frame", x.local(0, 2), 0);
        Judged.due("its value", x.local(0, 0), 5);
    }

    /** "A STEP of a thread is one instruction, whole" */
    private static void oneInstruction() {
        ThreadJudge x = begun("class A { static method int a(int) { load 0; give; } } ", "push 1; store 0; inc 0 5; load 0; call int A.a(int); dup; under; swap; pop; pop; pop; push 1; ifeq L; goto L; L: return;");
        int[] at = {17, 18, 19, 20, 14, 15, 21, 22, 23, 24, 25, 26, 27, 28, 29, 30};
        int m = x.method(18, 3);
        Judged.due("main", m, 16);
        for (int k = 0; k < at.length; k++) {
            Judged.due("step " + k, x.step(0), 1);
            Judged.due("count(17)", x.count(17), k + 1);
            Judged.due("instruction behind step " + k, x.state(0, 2), at[k]);
        }
        Judged.due("last", x.step(0), 1);
        Judged.due("no more", x.step(0), 0);
        Judged.due("count(17)", x.count(17), at.length + 1);
    }

    // ---- limits

    /** Things are made up to n, then an instruction is done that would make more of them. */
    private static ThreadJudge filled(int n, String classes, String before, String op) {
        String text = Judged.main(classes, before + " push " + n + "; store 9; L: new Main; pop; inc 9 -1; load 9; ifgt L; push 77; store 8; goto F; F: " + op + " return;");
        ThreadJudge x = begun(text);
        for (int k = 0; k < 4 && x.count(24) == 0; k++) {
            x.run(2000, 1);
        }
        return x;
    }

    private static void makes(String classes, String before, int there, String op, boolean makes) {
        ThreadJudge x = filled(399 - there, classes, before, op);
        Judged.due("399 and " + op, x.count(24), 0);
        Judged.due("ended", x.state(0, 0), 4);
        Judged.due("things", x.count(18), makes ? 400 : 399);
        x = filled(400 - there, classes, before, op);
        Judged.due("400 and " + op, x.count(24), makes ? 1 : 0);
        Judged.due("things", x.count(18), 400);
        Judged.due("state", x.state(0, 0), makes ? 0 : 4);
        if (makes) {
            Judged.due("nothing is done", x.step(0), 0);
            Judged.due("local 8", x.local(0, 8), 77);
        }
    }

    /** "THINGS .. 400 at most" .. "where there would be more of them, or of things, the run is OVER, and FULL" */
    private static void fourHundredThings() {
        String k = "class K { static synchronized method void s() { return; } method void <init>(int) { return; } method void m() { return; } } "
            + "class G { static field Object o; static method void g() { return; } } ";
        makes(k, "", 0, "new K; pop;", true);
        makes(k, "", 0, "push 2; array int; pop;", true);
        makes(k, "", 0, "lambda Runnable void Main.main(); pop;", true);
        makes(k, "", 0, "string \"a\"; pop;", true);
        makes(k, "string \"a\"; pop;", 1, "string \"a\"; pop;", false);
        makes(k, "string \"K\"; store 1;", 1, "load 1; call Class Class.named(String); pop;", true);
        makes(k, "string \"K\"; store 1; load 1; call Class Class.named(String); pop;", 2, "load 1; call Class Class.named(String); pop;", false);
        String cls = "string \"K\"; call Class Class.named(String); store 1; string \"m\"; store 2; ";
        makes(k, cls, 3, "load 1; virtual Object Class.newInstance(); pop;", true);
        makes(k, cls, 3, "load 1; load 2; virtual Method Class.find(String); pop;", true);
        makes(k, cls + "load 1; load 2; virtual Method Class.find(String); pop;", 4, "load 1; load 2; virtual Method Class.find(String); pop;", false);
        makes(k, "", 0, "call void K.s();", true);
        makes(k, "call void K.s();", 1, "call void K.s();", false);
        makes(k, "", 0, "A: push 1; push 0; div; pop; B: goto E; H: pop; E: return; catch Throwable A B H;", true);
        makes(k, "", 0, "A: null; throw; B: null; H: pop; return; catch Throwable A B H;", true);
        makes(k, "new State; store 1;", 1, "A: load 1; throw; B: null; H: pop; return; catch Throwable A B H;", false);
        makes(k, "new Thread; store 1;", 1, "load 1; virtual void Thread.start();", false);
        makes(k, "", 0, "call void G.g();", false);
        makes(k, "new K; store 1;", 1, "load 1; virtual void K.m();", false);
        makes(k, "", 0, "push 4; call void Out.print(int);", false);
        makes(k, "lambda Runnable void G.g(); store 1;", 1, "load 1; virtual void Runnable.run();", false);
        makes(k, "string \"G\"; call Class Class.named(String); string \"g\"; virtual Method Class.find(String); store 1;", 4, "load 1; null; virtual Object Method.invoke(Object); pop;", false);
        makes(k, "", 0, "getstatic G.o; pop; null; putstatic G.o;", false);
        // a LOCK that is a receiver's is a thing already
        String n = "class N { synchronized method void n() { return; } synchronized method Object o() { load 0; give; } } ";
        makes(n, "new N; store 1;", 1, "load 1; virtual void N.n();", false);
        makes(n, "new N; store 1; string \"N\"; call Class Class.named(String); string \"o\"; virtual Method Class.find(String); store 2;", 5, "load 2; load 1; virtual Object Method.invoke(Object); pop;", false);
    }

    private static ThreadJudge deep(int frames, String classes, String op) {
        String text = Judged.main(classes + "class D { static method void d(int) { load 0; ifle L; load 0; push 1; sub; call void D.d(int); return; L: " + op + " return; } } ", "push " + (frames - 2) + "; call void D.d(int); return;");
        ThreadJudge x = begun(text);
        x.run(2000, 1);
        return x;
    }

    private static void pushes(String classes, String op, int frames) {
        ThreadJudge x = deep(30 - frames, classes, op);
        Judged.due(frames + " frames by " + op, x.count(24), 0);
        Judged.due("ended", x.state(0, 0), 4);
        int things = x.count(18);
        int begun = x.count(23);
        x = deep(31 - frames, classes, op);
        Judged.due("too many frames by " + op, x.count(24), 1);
        Judged.due("frames", x.state(0, 1), 31 - frames);
        Judged.yes("nothing is done", x.count(18) <= things && x.count(23) <= begun);
        Judged.due("over", x.step(0), 0);
    }

    /** "FRAMES are at most 30 in a thread" */
    private static void thirtyFrames() {
        String k = "class S { static field int f; static method void <clinit>() { return; } static method void s() { return; } method void m() { return; } method void <init>() { return; } } class K extends S { static field int f; static method void <clinit>() { return; } } class N { static method void n() { return; } method void <init>() { return; } method void m() { return; } } interface F { abstract method void f(); } ";
        pushes(k, "call void N.n();", 1);
        pushes(k, "new N; virtual void N.m();", 1);
        pushes(k, "new N; special void N.<init>();", 1);
        pushes(k, "lambda F void N.n(); virtual void F.f();", 1);
        pushes(k, "string \"N\"; call Class Class.named(String); virtual Object Class.newInstance(); pop;", 1);
        pushes(k, "string \"N\"; call Class Class.named(String); string \"n\"; virtual Method Class.find(String); null; virtual Object Method.invoke(Object); pop;", 1);
        pushes(k, "string \"N\"; call Class Class.named(String); string \"m\"; virtual Method Class.find(String); new N; virtual Object Method.invoke(Object); pop;", 1);
        pushes(k, "getstatic S.f; pop;", 1);
        pushes(k, "getstatic K.f; pop;", 2);
        pushes(k, "push 1; putstatic K.f;", 2);
        pushes(k, "new K; pop;", 2);
        pushes(k, "call void K.s();", 1);
        pushes(k, "string \"K\"; call Class Class.named(String); pop;", 2);
        // natives have no frames
        ThreadJudge x = deep(30, k, "push 1;" + P + "new Thread; virtual void Thread.start(); string \"N\"; call Class Class.named(String); pop;");
        Judged.due("natives at 30 frames", x.count(24), 0);
        Judged.due("said", x.count(20), 1);
        // two <clinit>s too many: none begins
        x = deep(29, k, "new K; pop;");
        Judged.due("full", x.count(24), 1);
        Judged.due("began: Main, Object, D", x.count(23), 3);
        // each thread has its own
        x = begun("class T extends Thread { method void run() { call void T.d(); return; } static method void d() { call void T.d(); return; } } ", "new T; virtual void Thread.start(); call void T.d(); return;");
        steps(x, 0, 2 + 29);
        Judged.due("frames of 0", x.state(0, 1), 30);
        steps(x, 1, 29);
        Judged.due("frames of 1", x.state(1, 1), 30);
        Judged.due("not full yet", x.count(24), 0);
        Judged.due("one more", x.step(1), 0);
        Judged.due("full", x.count(24), 1);
        Judged.due("the other one neither", x.step(0), 0);
    }

    /** "threads 12" */
    private static void twelveThreads() {
        for (int n = 11; n < 13; n++) {
            ThreadJudge x = begun("class R extends Thread { } ", "push " + n + "; store 9; L: new R; virtual void Thread.start(); inc 9 -1; load 9; ifgt L; return;");
            for (int k = 0; k < 80 && x.step(0) == 1; k++) {
                continue;
            }
            Judged.due("threads", x.count(19), 12);
            Judged.due("full", x.count(24), n > 11 ? 1 : 0);
            Judged.due("things", x.count(18), n);
            Judged.due("ended", x.state(0, 0), n > 11 ? 0 : 4);
        }
        // ended ones count, too
        ThreadJudge x = begun("abstract class A extends Thread { abstract method void run(); } class R extends A { } ", "push 12; store 9; L: new R; virtual void Thread.start(); inc 9 -1; load 9; ifgt L; return;");
        x.run(200, 1);
        Judged.due("threads without run", x.count(19), 12);
        Judged.due("full", x.count(24), 1);
    }

    /** "the run is OVER, and FULL (nothing of that step is done: it answers 0" .. "told so even when the run is OVER" */
    private static void overAndFull() {
        ThreadJudge x = begun("class A { static method void a() { call void A.a(); return; } } ", "new Thread; virtual void Thread.start(); call void A.a(); return;");
        steps(x, 0, 2 + 29);
        int steps = x.count(17);
        Judged.due("not full", x.count(24), 0);
        Judged.due("the step that would be too much", x.step(0), 0);
        Judged.due("full", x.count(24), 1);
        Judged.due("steps", x.count(17), steps);
        Judged.due("state 0", x.state(0, 0), 0);
        Judged.due("state 1", x.state(1, 0), 0);
        Judged.due("no other thread goes on", x.step(1), 0);
        Judged.due("no run", x.run(10, 3), 0);
        Judged.due("frames", x.state(0, 1), 30);
        Judged.due("instruction", x.state(0, 2), 14);
        // what began in that step has not begun
        String made = "push 398; store 1; new Object; store 2; L: new Object; pop; inc 1 -1; load 1; ifgt L; ";
        ThreadJudge y = begun("class R { } class S extends R { } class K extends S { } class M { static synchronized method void s() { return; } } ", made + "push 1; pop; load 2; pop; new Object; pop; new K; pop; return;");
        y.run(2000, 1);
        y.run(2000, 1);
        Judged.due("full", y.count(24), 1);
        Judged.due("things", y.count(18), 400);
        Judged.due("Main and Object alone", y.count(23), 2);
        y = begun("class R { } class S extends R { } class K extends S { static synchronized method void s() { return; } } ", made + "new Object; pop; call void K.s(); return;");
        y.run(2000, 1);
        y.run(2000, 1);
        Judged.due("full", y.count(24), 1);
        Judged.due("Main and Object alone", y.count(23), 2);
        // MAIN's own LOCK: its CLASS would be one thing too many
        for (int more = 0; more < 2; more++) {
            y = begun("class Main { static method void <clinit>() { push " + (399 + more) + "; store 1; L: new Object; pop; inc 1 -1; load 1; ifgt L; return; } static synchronized method void main() { push 1; return; } }");
            int done = 2 + 5 * (399 + more) + 1;
            Judged.due("steps of <clinit>", y.run(done - 5, 0) + y.run(5, 0), done);
            Judged.due("<clinit> is ended", y.state(0, 1), 1);
            Judged.due("things of <clinit>", y.count(18), 399 + more);
            Judged.due("enters its LOCK", y.step(0), 1 - more);
            Judged.due("full by the CLASS", y.count(24), more);
            Judged.due("things", y.count(18), 400);
            Judged.due("steps", y.count(17), done + 1 - more);
            Judged.due("goes on", y.step(0), 1 - more);
        }
        Judged.yes("begin anew", x.begin());
        Judged.due("not full any more", x.count(24), 0);
        Judged.due("goes on", x.step(0), 1);
    }

    // ---- classes begin

    private static final String BEGIN = "class S { static field int f; static method void <clinit>() { push 1;" + P + "return; } static method void s() { return; } } class K extends S { static field int g; static method void <clinit>() { push 2;" + P + "return; } static method void k() { return; } method void m() { return; } field int h; } class L extends K { } ";

    /** "If an instruction lets a class begin (also by newInstance, invoke, named ..)" */
    private static void whatBegins() {
        String[] lines = {"new K; pop;", "new L; pop;", "getstatic K.g; pop;", "getstatic L.g; pop;", "getstatic K.f; pop;", "push 1; putstatic K.g;", "call void K.k();", "call void L.k();", "call void K.s();", "push 1; array K; pop;", "lambda Runnable void K.k(); virtual void Runnable.run();",
            "null; cast K; is K; pop;", "string \"K\"; call Class Class.named(String); pop;", "string \"S\"; call Class Class.named(String); pop;", "null; ifnull E; null; get K.h; pop; null; virtual void K.m(); E:"};
        int[] said = {12, 12, 12, 12, 1, 12, 12, 12, 1, 0, 0, 0, 12, 1, 0};
        for (int k = 0; k < lines.length; k++) {
            ThreadJudge x = begun(BEGIN, lines[k] + " return;");
            x.run(200, 1);
            int all = 0;
            for (int n = 0; n < x.count(20); n++) {
                all = all * 10 + x.said(n);
            }
            Judged.due("began by " + lines[k], all, said[k]);
            Judged.due("ended", x.state(0, 0), 4);
        }
        // "A CLASS BEGINS once."
        says(BEGIN, "new L; pop; new K; pop; getstatic S.f; pop; call void K.k(); string \"S\"; call Class Class.named(String); pop; push 3;" + P + "return;", 1, 2, 3);
    }

    /** "those without <clinit> have begun at once; frames of the others' <clinit> come, that of the class itself lowest, what it extends above it; if one came, that was all of this step" */
    private static void howItBegins() {
        ThreadJudge x = begun(BEGIN, "new L; return;");
        Judged.due("began", x.count(23), 2);
        Judged.due("frames come", x.step(0), 1);
        Judged.due("frames", x.state(0, 1), 3);
        Judged.due("S's is topmost", x.state(0, 3), 17);
        Judged.due("L, K, S are let begin", x.count(23), 5);
        Judged.due("nothing is made", x.count(18), 0);
        steps(x, 0, 3);
        Judged.due("then K's", x.state(0, 3), 19);
        Judged.due("frames", x.state(0, 1), 2);
        steps(x, 0, 3);
        Judged.due("then main", x.state(0, 3), x.count(5) - 1);
        Judged.due("at its first", x.state(0, 2), x.method(x.count(5) - 1, 3));
        Judged.due("done anew", x.step(0), 1);
        Judged.due("made", x.count(18), 1);
        // none came: it goes on in this step
        x = begun("class S { } class K extends S { static field int f; } ", "new K; getstatic K.f; return;");
        Judged.due("one step", x.step(0), 1);
        Judged.due("made", x.count(18), 1);
        Judged.due("began", x.count(23), 4);
        // what has begun, or is at its beginning, is left out
        x = begun(BEGIN, "getstatic S.f; pop; new L; return;");
        steps(x, 0, 1 + 3 + 1 + 1);
        Judged.due("began: Main, Object, S, Out", x.count(23), 4);
        steps(x, 0, 1);
        Judged.due("K's alone", x.state(0, 1), 2);
        Judged.due("K's", x.state(0, 3), 19);
    }

    /** "and the instruction is done anew when they are ended" */
    private static void doneAnew() {
        says("class K { static field int f; static method void <clinit>() { push 7; putstatic K.f; return; } static method int a(int) { load 0; push 1; add; give; } } ", "push 5; call int K.a(int);" + P + "getstatic K.f;" + P + "return;", 6, 7);
        ThreadJudge x = begun("class K { static field int f; static method void <clinit>() { return; } } ", "push 5; putstatic K.f; return;");
        steps(x, 0, 2);
        Judged.due("not written yet", x.value(0, 1), 0);
        steps(x, 0, 1);
        Judged.due("nor now", x.value(0, 1), 0);
        Judged.due("the value is there", x.local(0, 10), 5);
        steps(x, 0, 1);
        Judged.due("written", x.value(0, 1), 5);
    }

    /** "as long as another thread is at the beginning of it, or of one that it extends, the instruction waits (nothing is done)" */
    private static void othersWait() {
        String c = "class S { static field int f; static method void <clinit>() { return; } } class K extends S { static field int g; static method void <clinit>() { return; } static method void k() { return; } } class L extends K { } class O { static field int o; } ";
        String[] uses = {"new L; pop;", "new K; pop;", "getstatic K.g; pop;", "call void K.k();", "getstatic S.f; pop;", "push 1; putstatic S.f;", "push 1; array K; pop;", "getstatic O.o; pop;", "null; cast L; pop;", "string \"L\"; call Class Class.named(String); pop;"};
        int[] waits = {2, 2, 2, 2, 1, 1, 0, 0, 0, 2};
        for (int k = 0; k < uses.length; k++) {
            ThreadJudge x = begun(c + "class T extends Thread { method void run() { " + uses[k] + " return; } } ", "new T; virtual void Thread.start(); new K; return;");
            steps(x, 0, 3);
            Judged.due("both are at their beginning", x.state(0, 1), 3);
            int before = uses[k].startsWith("push") || uses[k].startsWith("string") || uses[k].startsWith("null") ? 1 : 0;
            steps(x, 1, before);
            int steps = x.count(17);
            int state = waits[k] > 0 ? 3 : 0;
            Judged.due("state at " + uses[k], x.state(1, 0), state);
            Judged.due("for no thing", x.state(1, 4), -1);
            if (state == 3) {
                Judged.due("nothing is done", x.step(1), 0);
                Judged.due("steps", x.count(17), steps);
            }
            steps(x, 0, 1);
            Judged.due("S has begun, state at " + uses[k], x.state(1, 0), waits[k] > 1 ? 3 : 0);
            steps(x, 0, 1);
            Judged.due("K has begun", x.state(1, 0), 0);
            x.run(100, 1);
            Judged.due("ended", x.state(1, 0), 4);
        }
    }

    /** "Else .. all of these that have not begun, and that this thread is not at, begin" */
    private static void thisThreadIsAtIt() {
        says("class K { static field int f; static method void <clinit>() { push 1;" + P + "getstatic K.f; pop; new K; pop; call void K.k(); push 2;" + P + "return; } static method void k() { push 3;" + P + "return; } } ", "new K; pop; return;", 1, 3, 2);
        // in the beginning of what it extends the class itself begins
        says("class S { static method void <clinit>() { push 1;" + P + "new K; pop; push 2;" + P + "return; } } class K extends S { static method void <clinit>() { push 3;" + P + "return; } } ", "new S; pop; new K; pop; push 4;" + P + "return;", 1, 3, 2, 4);
    }

    /** "(ahead of any LOCK)" */
    private static void aheadOfTheLock() {
        ThreadJudge x = begun("class K { static method void <clinit>() { push 1;" + P + "return; } static synchronized method void s() { return; } } ", "call void K.s(); return;");
        steps(x, 0, 1);
        Judged.due("the <clinit>", x.state(0, 3), 17);
        Judged.due("no CLASS is a thing", x.count(18), 0);
        steps(x, 0, 3);
        steps(x, 0, 1);
        Judged.due("then s", x.state(0, 3), 18);
        Judged.due("its LOCK", x.thing(0, 1), 3019);
        Judged.due("entered", x.thing(0, 3), 1);
        // a lambda's method holds the LOCK of a class that has not begun: what lets it begin does not wait for that
        String k = "class S { static method void <clinit>() { return; } } class K extends S { @static synchronized method void s() { return; } static synchronized method void m() { L: goto L; } } ";
        for (int own = 0; own < 2; own++) {
            ThreadJudge y = begun(k.replace("@", own == 1 ? "static method void <clinit>() { return; } " : ""), "new Thread; dup; lambda Runnable void K.m(); special void Thread.<init>(Runnable); virtual void Thread.start(); call void K.s(); return;");
            steps(y, 0, 4 + 4 + 1);
            steps(y, 1, 9);
            int lock = y.count(18) - 1;
            Judged.due("the LOCK", y.thing(lock, 1), 3020);
            Judged.due("is the other thread's", y.thing(lock, 4), 1);
            Judged.due("can go on", y.state(0, 0), 0);
            int began = y.count(23);
            steps(y, 0, 1);
            Judged.due("frames of <clinit>", y.state(0, 1), 2 + own);
            Judged.due("K and S begin", y.count(23) - began, 2);
            steps(y, 0, 1 + own);
            Judged.due("then it waits for the LOCK", y.state(0, 0), 1);
            Judged.due("which is", y.state(0, 4), lock);
            Judged.due("and nothing is done", y.step(0), 0);
        }
    }

    /** "Ended, also by what it lets go, the class has begun." */
    private static void endedByWhatItLetsGo() {
        says("class K { static field int f; static method void <clinit>() { push 1;" + P + "push 1; push 0; div; pop; return; } } ", "A: getstatic K.f; pop; push 8;" + P + "B: return; H: pop; getstatic K.f;" + P + "push 9;" + P + "return; catch Arithmetic A B H;", 1, 0, 9);
        ThreadJudge x = begun("class K { static field int f; static method void <clinit>() { new Cast; throw; } } class T extends Thread { method void run() { getstatic K.f; pop; return; } } ", "new T; virtual void Thread.start(); getstatic K.f; pop; return;");
        steps(x, 0, 4);
        Judged.due("waits", x.state(1, 0), 3);
        steps(x, 0, 1);
        Judged.due("main is ended by it", x.state(0, 0), 4);
        Judged.due("has begun for the other one", x.state(1, 0), 0);
        steps(x, 1, 3);
        Judged.due("ended", x.state(1, 0), 4);
    }

    /** "(also by newInstance, invoke, named, when all else of it is in order)" */
    private static void beginsByNatives() {
        // a CLASS, and a METHOD, that another thread has while the class is at its beginning
        String c = "class H { static field Class c; static field Method m; static field Method v; } class K { static method void <clinit>() { string \"K\"; call Class Class.named(String); dup; dup; putstatic H.c; string \"s\"; virtual Method Class.find(String); putstatic H.m; string \"v\"; virtual Method Class.find(String); putstatic H.v; W: goto W; } static method void s() { return; } method void v() { return; } } ";
        String[] uses = {"getstatic H.c; virtual Object Class.newInstance(); pop; return;", "getstatic H.m; null; virtual Object Method.invoke(Object); pop; return;", "string \"K\"; call Class Class.named(String); pop; return;", "getstatic H.v; null; virtual Object Method.invoke(Object); pop; return;", "getstatic H.c; string \"s\"; virtual Method Class.find(String); pop; return;"};
        int[] before = {1, 2, 1, 2, 2};
        int[] state = {3, 3, 3, 0, 0};
        for (int k = 0; k < uses.length; k++) {
            ThreadJudge x = begun(c + "class T extends Thread { method void run() { " + uses[k] + " } } ", "new T; virtual void Thread.start(); string \"K\"; call Class Class.named(String); return;");
            steps(x, 0, 4 + 11 + 3);
            steps(x, 1, before[k]);
            Judged.due("state at " + uses[k], x.state(1, 0), state[k]);
            Judged.due("step", x.step(1), state[k] == 0 ? 1 : 0);
        }
        // not in order: NoClass at once, without waiting
        ThreadJudge x = begun(c.replace("class K {", "abstract class K {").replace("class T", "class T") + "class T extends Thread { method void run() { getstatic H.c; virtual Object Class.newInstance(); pop; return; } } ", "new T; virtual void Thread.start(); string \"K\"; call Class Class.named(String); return;");
        steps(x, 0, 4 + 11 + 3);
        steps(x, 1, 1);
        Judged.due("NoClass does not wait", x.state(1, 0), 0);
        steps(x, 1, 1);
        Judged.due("NoClass", x.thing(x.count(18) - 1, 1), 5014);
        // named of no class's name begins none
        says(BEGIN, "A: string \"k\"; call Class Class.named(String); pop; B: return; H: is NoClass;" + P + "return; catch Throwable A B H;", 1);
        // newInstance begins the class ahead of <init>
        says("class K { static field int f; static method void <clinit>() { push 1;" + P + "return; } method void <init>() { push 2;" + P + "return; } } ", "string \"K\"; call Class Class.named(String); push 3;" + P + "virtual Object Class.newInstance(); pop; return;", 1, 3, 2);
    }

    /** "At the beginning of a run MAIN's class begins so, above MAIN's frame." */
    private static void mainsClass() {
        ThreadJudge x = begun("class S { static method void <clinit>() { return; } } class Main extends S { static method void <clinit>() { return; } static method void main() { return; } }");
        Judged.due("frames", x.state(0, 1), 3);
        Judged.due("S's", x.state(0, 3), 17);
        Judged.due("no step was done", x.count(17), 0);
        Judged.due("began", x.count(23), 3);
        steps(x, 0, 1);
        Judged.due("Main's", x.state(0, 3), 18);
        steps(x, 0, 1);
        Judged.due("main", x.state(0, 3), 19);
        steps(x, 0, 1);
        Judged.due("ended", x.state(0, 0), 4);
        // "(if none did: MAIN's frame goes, and the thread is ENDED)"
        x = begun("class S { static method void <clinit>() { new Cast; throw; } } class Main extends S { static method void <clinit>() { return; } static method void main() { return; } }");
        steps(x, 0, 2);
        Judged.due("ended", x.state(0, 0), 4);
        Judged.due("no frames", x.state(0, 1), 0);
        Judged.due("all have begun, Cast and Throwable too", x.count(23), 5);
        String caught = "A: push 1; pop; B: return; H: push 9;" + P + "return; catch Throwable A B H; ";
        for (String text : new String[] {"class S { static method void <clinit>() { new Cast; throw; } } class Main extends S { static method void <clinit>() { " + caught + "} static method void main() { " + caught + "} }",
            "class S { static method void <clinit>() { return; } } class Main extends S { static method void <clinit>() { new Cast; throw; } static method void main() { " + caught + "} }",
            "class S { static method void <clinit>() { new Cast; throw; } } class Main extends S { static method void main() { " + caught + "} }"}) {
            x = begun(text);
            x.run(50, 1);
            Judged.due("nothing is caught", x.count(20), 0);
            Judged.due("ended", x.state(0, 0), 4);
            Judged.due("no frames", x.state(0, 1), 0);
            Judged.due("no instruction of main is done", x.count(17), text.contains("{ return; }") ? 3 : 2);
        }
        x = begun("class Main { static method void <clinit>() { return; } static synchronized method void main() { return; } }");
        Judged.due("the LOCK is not entered yet", x.count(18), 0);
        steps(x, 0, 1);
        Judged.due("nor now", x.count(18), 0);
        steps(x, 0, 1);
        Judged.due("now", x.thing(0, 3), 1);
    }

    // ---- numbers and what is thrown

    /** "NUMBERS are of 32 bits and wrap; 9, 10 cut off towards 0 ..; 15, 16 by the lowest five bits, 16 with sign." */
    private static void numbers() {
        int[] some = {0, 1, -1, 2, -2, 7, -7, 31, 32, 33, -32, 65536, 2147483647, -2147483648, -2147483647, 1103515245};
        String[] ops = {"add", "sub", "mul", "div", "rem", "and", "or", "xor", "shl", "shr"};
        for (int o = 0; o < ops.length; o++) {
            for (int a : some) {
                StringBuilder lines = new StringBuilder();
                int[] due = new int[some.length];
                int n = 0;
                for (int b : some) {
                    if (b != 0 || o != 3 && o != 4) {
                        lines.append("push ").append(a).append("; push ").append(b).append("; ").append(ops[o]).append(";").append(P);
                        due[n++] = value(o, a, b);
                    }
                }
                says("", lines + "return;", java.util.Arrays.copyOf(due, n));
            }
        }
        for (int a : some) {
            says("", "push " + a + "; neg;" + P + "push " + a + "; store 1; inc 1 2147483647; load 1;" + P + "inc 1 -2147483648; load 1;" + P + "return;", -a, a + 2147483647, a - 1);
        }
        for (String op : new String[] {"div", "rem"}) {
            for (int a : new int[] {0, 5, -2147483648}) {
                says("", "A: push " + a + "; push 0; " + op + "; pop; B: return; H: is Arithmetic;" + P + "return; catch Throwable A B H;", 1);
            }
        }
    }

    private static int value(int op, int a, int b) {
        switch (op) {
            case 0: return a + b;
            case 1: return a - b;
            case 2: return a * b;
            case 3: return a / b;
            case 4: return a % b;
            case 5: return a & b;
            case 6: return a | b;
            case 7: return a ^ b;
            case 8: return a << b;
            default: return a >> b;
        }
    }

    /** "Comparisons of 22 to 33 are of the second last with the last (or with 0). 34 to 37 of references." */
    private static void comparisons() {
        // what stood on the stack before is no operand
        says("", "push 1; push 2; push 3; pop; swap;" + P + P + "return;", 1, 2);
        says("", "push 1; push 2; push 3; push 4; pop; pop; swap; push 9; pop;" + P + P + "return;", 1, 2);
        says("", "push 5; push 6; under;" + P + P + P + "return;", 6, 5, 6);
        says("", "push 5; push 6; dup;" + P + P + P + "return;", 6, 6, 5);
        says("", "push 5; push 6; pop;" + P + "return;", 5);
        says("", "push -1; pop; goto L; push 3;" + P + "L: push 4;" + P + "return;", 4);
        says("", "null; pop; goto L; push 3;" + P + "L: push 4;" + P + "return;", 4);
        says("", "push -1; push -2; pop; pop; push 0; ifeq L; push 3;" + P + "L: push 4;" + P + "return;", 4);
        says("", "push 7; push 9; pop; neg;" + P + "return;", -7);
        int[] some = {-2147483648, -1, 0, 1, 2147483647};
        String[] names = {"eq", "ne", "lt", "ge", "gt", "le"};
        for (int how = 0; how < 6; how++) {
            for (int a : some) {
                says("", "push " + a + "; if" + names[how] + " L; push 0;" + P + "return; L: push 1;" + P + "return;", compares(how, a, 0) ? 1 : 0);
                for (int b : some) {
                    says("", "push " + a + "; push " + b + "; cmp" + names[how] + " L; push 0;" + P + "return; L: push 1;" + P + "return;", compares(how, a, b) ? 1 : 0);
                }
            }
        }
        String[] makes = {"null;", "load 1;", "load 2;", "string \"a\";"};
        for (int a = 0; a < 4; a++) {
            for (int b = 0; b < 4; b++) {
                String head = "new Main; store 1; new Main; store 2; " + makes[a] + " " + makes[b];
                says("", head + " same L; push 0;" + P + "return; L: push 1;" + P + "return;", a == b ? 1 : 0);
                says("", head + " other L; push 0;" + P + "return; L: push 1;" + P + "return;", a == b ? 0 : 1);
            }
            says("", "new Main; store 1; new Main; store 2; " + makes[a] + " ifnull L; push 0;" + P + "return; L: push 1;" + P + "return;", a == 0 ? 1 : 0);
            says("", "new Main; store 1; new Main; store 2; " + makes[a] + " ifsome L; push 0;" + P + "return; L: push 1;" + P + "return;", a == 0 ? 0 : 1);
        }
    }

    private static boolean compares(int how, int a, int b) {
        switch (how) {
            case 0: return a == b;
            case 1: return a != b;
            case 2: return a < b;
            case 3: return a >= b;
            case 4: return a > b;
            default: return a <= b;
        }
    }

    private static final String K = "class K { field int n; field K k; method void m() { return; } } class B { } interface I { } class C extends K implements I { } abstract class Ab { abstract method void v(); } class Co extends Ab { } ";

    /** The class of what the machine throws at lines (- 1: nothing). */
    private static void raises(String lines, int type) {
        ThreadJudge x = begun(K, "A: " + lines + " B: push 1; store 9; return; H: store 8; push 2; store 9; return; catch Throwable A B H;");
        int end = x.count(6) - 1;
        for (int k = 0; k < 60 && x.state(0, 2) != end && x.local(0, 9) != 1; k++) {
            x.step(0);
        }
        if (type < 0) {
            Judged.due("nothing is thrown by " + lines, x.local(0, 9), 1);
            return;
        }
        Judged.due("thrown by " + lines, x.local(0, 9), 2);
        int n = x.local(0, 8);
        Judged.due("class, by " + lines, x.thing(n, 0), type);
        Judged.due("site, by " + lines, x.thing(n, 1), 5000 + type);
        Judged.due("a new thing", n, x.count(18) - 1);
    }

    /** "null where a thing is wanted (38, 39, 44 to 46, 49, 50, 53 to 55, natives): NullPointer." */
    private static void nullWhereAThingIsWanted() {
        String[] nulls = {"null; get K.n; pop;", "null; get K.k; pop;", "null; push 1; put K.n;", "null; null; put K.k;", "null; push 0; element; pop;", "null; push -1; element; pop;", "null; push 0; push 1; setelement;", "null; push 99; null; setelement;", "null; length; pop;", "null; virtual void K.m();",
            "null; special void K.<init>();", "null; throw;", "null; virtual void Object.wait();", "null; virtual void Object.notify();", "null; virtual void Object.notifyAll();", "null; virtual void Thread.start();", "null; virtual void Thread.join();", "null; virtual Object Class.newInstance(); pop;",
            "null; string \"a\"; virtual Method Class.find(String); pop;", "null; null; virtual Object Method.invoke(Object); pop;", "null; call Class Class.named(String); pop;", "null; call void Runtime.hook(Thread);", "string \"K\"; call Class Class.named(String); null; virtual Method Class.find(String); pop;",
            "string \"K\"; call Class Class.named(String); string \"m\"; virtual Method Class.find(String); null; virtual Object Method.invoke(Object); pop;", "null; virtual void Ab.v();"};
        for (String lines : nulls) {
            raises(lines, 6);
        }
        for (String lines : new String[] {"null; cast K; pop;", "null; is K; pop;", "null; ifnull B;", "null; null; same B;", "new K; null; put K.k;", "push 1; array K; push 0; null; setelement;", "null; store 1; load 1; pop;"}) {
            raises(lines, -1);
        }
        ThreadJudge x = begun("class N { static method void e() { null; enter; null; exit; return; } } ", "A: call void N.e(); B: return; H: return; catch NullPointer A B H;");
        steps(x, 0, 3);
        Judged.due("53", x.thing(0, 1), 5006);
        Judged.due("caught", x.state(0, 1), 1);
        x = begun("class N { static method void e() { new N; enter; null; exit; return; } } ", "A: call void N.e(); B: return; H: return; catch NullPointer A B H;");
        steps(x, 0, 5);
        Judged.due("54", x.thing(1, 1), 5006);
        Judged.due("let go", x.thing(0, 3), 0);
    }

    /** "43: a number below 0 or above 16: Size. 44, 45: no such element: Index" */
    private static void sizesAndIndexes() {
        for (int n : new int[] {-2147483648, -1, 17, 18, 2147483647}) {
            raises("push " + n + "; array int; pop;", 11);
            raises("push " + n + "; array K; pop;", 11);
        }
        for (int n : new int[] {0, 1, 15, 16}) {
            raises("push " + n + "; array int; pop;", -1);
            says("", "push " + n + "; array Object; length;" + P + "push " + n + "; array int; length;" + P + "return;", n, n);
            for (int k : new int[] {-2147483648, -1, n, n + 1, 2147483647}) {
                raises("push " + n + "; array int; push " + k + "; element; pop;", 8);
                raises("push " + n + "; array int; push " + k + "; push 5; setelement;", 8);
                raises("push " + n + "; array K; push " + k + "; element; pop;", 8);
                raises("push " + n + "; array K; push " + k + "; null; setelement;", 8);
                raises("push " + n + "; array K; push " + k + "; new B; setelement;", 8);
            }
            for (int k = 0; k < n; k += 5) {
                says("", "push " + n + "; array int; store 1; load 1; push " + k + "; push " + (k * 7 + 1) + "; setelement; load 1; push " + k + "; element;" + P + "load 1; length;" + P + "return;", k * 7 + 1, n);
            }
        }
    }

    /** "(before Store: a reference that is not below the elements' class). 47: not null, and not below t: Cast; 48: 1 if not null and below t, else 0." */
    private static void storeCastIs() {
        // thing 0 is looked at as each other one
        raises("new B; store 1; push 2; array K; push 0; load 1; setelement;", 10);
        raises("new C; store 1; push 2; array K; push 0; load 1; setelement;", -1);
        raises("new B; store 1; load 1; cast K; pop;", 9);
        raises("push 1; array K; push 0; new B; setelement;", 10);
        raises("push 1; array C; push 0; new K; setelement;", 10);
        raises("push 1; array K; push 0; push 1; array K; setelement;", 10);
        raises("push 1; array I; push 0; new K; setelement;", 10);
        raises("push 1; array C; cast K[]; push 0; new K; setelement;", 10);
        raises("push 1; array K; push 0; new C; setelement;", -1);
        raises("push 1; array I; push 0; new C; setelement;", -1);
        raises("push 1; array Object; push 0; push 1; array int; setelement;", -1);
        raises("push 1; array Runnable; push 0; lambda Runnable void Main.main(); setelement;", -1);
        raises("push 1; array K; push 0; null; setelement;", -1);
        String[] makes = {"new K;", "new C;", "new B;", "push 1; array K;", "push 1; array C;", "push 1; array int;", "lambda Runnable void Main.main();", "string \"a\";", "null;"};
        String[] types = {"Object", "K", "C", "I", "K[]", "Object[]", "I[]", "int[]", "Runnable", "String"};
        String[] below = {"Object K", "Object K C I", "Object", "Object K[] Object[]", "Object K[] C[] Object[] I[]", "Object int[]", "Object Runnable", "Object String", ""};
        for (int m = 0; m < makes.length; m++) {
            for (String type : types) {
                boolean is = (" " + below[m] + " ").contains(" " + type + " ");
                boolean none = makes[m].equals("null;");
                raises(makes[m] + " cast " + type + "; pop;", is || none ? -1 : 9);
                says(K, makes[m] + " is " + type + ";" + P + "return;", is ? 1 : 0);
            }
        }
    }

    /** "49: none is selected: NoMethod." */
    private static void noneSelected() {
        raises("new Co; virtual void Ab.v();", 15);
        ThreadJudge x = begun("interface I { method void m() { return; } } interface J { method void m() { return; } } class A implements I, J { } ", "new A; virtual void I.m(); return;");
        steps(x, 0, 2);
        Judged.due("of two neither", x.thing(1, 1), 5015);
        says("interface I { abstract method void m(); } class A implements I { } ", "A: new A; virtual void I.m(); B: return; H: is NoMethod;" + P + "return; catch Throwable A B H;", 1);
    }

    /** "What the machine throws is a new thing." */
    private static void newThings() {
        ThreadJudge x = begun("class K { static method void d() { A: push 1; push 0; div; pop; B: return; H: pop; return; catch Arithmetic A B H; } } ", "call void K.d(); call void K.d(); call void K.d(); return;");
        x.run(100, 1);
        Judged.due("three things", x.count(18), 3);
        for (int n = 0; n < 3; n++) {
            Judged.due("Arithmetic", x.thing(n, 0), 7);
        }
    }

    /** "THROWN in a frame: to the first 'catch' that its instruction is in whose class it is below: the stack is that alone" */
    private static void firstCatch() {
        String e = "class E extends Throwable { } class F extends E { } ";
        String lines = "A: new @; store 1; push 1; push 2; load 1; throw; B: push 0; G: pop; push 1;" + P + "return; H: pop; push 2;" + P + "return; I: pop; push 3;" + P + "return; catch F A B G; catch E A B H; catch Throwable A B I;";
        String fixed = lines.replace("B: push 0; G:", "B: null; G:");
        says(e, fixed.replace("@", "F"), 1);
        says(e, fixed.replace("@", "E"), 2);
        says(e, fixed.replace("@", "Cast"), 3);
        says(e, fixed.replace("@", "Throwable"), 3);
        ThreadJudge x = begun(e, fixed.replace("@", "E"));
        steps(x, 0, 6);
        Judged.due("the stack is that alone", x.local(0, 10), 0);
        Judged.due("nothing above it", x.local(0, 11), -1);
        Judged.due("locals stay", x.local(0, 1), 0);
        // not within: its first label's is, its second's is not
        x = begun(e, "push 1; pop; A: push 1; pop; B: new E; throw; H: return; catch Throwable A B H;");
        x.run(50, 1);
        Judged.due("thrown behind it", x.count(17), 6);
        Judged.due("ended", x.state(0, 0), 4);
        says(e, "new E; goto A; A: throw; B: null; H: pop; push 5;" + P + "return; catch E A B H;", 5);
        // the row's order counts, not that of classes
        says(e, "A: new F; throw; B: null; G: pop; push 1;" + P + "return; H: pop; push 2;" + P + "return; catch E A B G; catch F A B H;", 1);
        // thrown at a handler within its own catch
        says(e, "A: new F; throw; B: null; H: pop; push 1;" + P + "return; catch E A B H;", 1);
    }

    /** "else the frame goes (monitors that it entered and did not exit, and its LOCK, are let go), and it is thrown at the instruction of the frame below, that called it" */
    private static void framesGo() {
        ThreadJudge x = begun("class K { static field Object o; static synchronized method void a() { new K; store 1; load 1; enter; load 1; enter; new K; enter; call void K.b(); null; exit; null; exit; null; exit; return; } static method void b() { new K; enter; new Cast; throw; } } ",
            "new K; enter; A: call void K.a(); B: null; exit; return; H: pop; null; exit; return; catch Cast A B H;");
        steps(x, 0, 2 + 1 + 9);
        Judged.due("CLASS", x.thing(1, 3), 1);
        Judged.due("twice", x.thing(2, 3), 2);
        Judged.due("once", x.thing(3, 3), 1);
        steps(x, 0, 3);
        Judged.due("b's", x.thing(4, 3), 1);
        Judged.due("frames", x.state(0, 1), 3);
        steps(x, 0, 1);
        Judged.due("frames", x.state(0, 1), 1);
        for (int n = 1; n < 5; n++) {
            Judged.due("let go " + n, x.thing(n, 3), 0);
            Judged.due("by none " + n, x.thing(n, 4), -1);
        }
        Judged.due("main's stays", x.thing(0, 3), 1);
        Judged.due("main's owner", x.thing(0, 4), 0);
        Judged.due("the thing thrown", x.local(0, 10), 5);
        // caught in the same frame: monitors stay
        x = begun("class K { static method void m() { new K; enter; A: new Cast; throw; B: null; H: pop; null; exit; return; catch Cast A B H; } } ", "call void K.m(); return;");
        steps(x, 0, 5);
        Judged.due("still entered", x.thing(0, 3), 1);
        // by <init> of newInstance, and by invoke
        says("class K { method void <init>() { new Cast; throw; } static method void s() { new Index; throw; } } ", "string \"K\"; call Class Class.named(String); store 1; A: load 1; virtual Object Class.newInstance(); pop; B: return; H: is Cast;" + P + "C: load 1; string \"s\"; virtual Method Class.find(String); null; virtual Object Method.invoke(Object); pop; D: return; I: is Index;" + P + "return; catch Throwable A B H; catch Throwable C D I;", 1, 1);
    }

    /** "If it was the frame of a <clinit>: frames of classes that began by the same instruction below it go, too (they have begun), and it is thrown at the instruction that let them begin" */
    private static void clinitsGo() {
        String c = "class R { static method void <clinit>() { push 1;" + P + "return; } } class S extends R { static method void <clinit>() { push 2;" + P + "new Cast; throw; } } class K extends S { static method void <clinit>() { push 3;" + P + "return; } } class L extends K { static method void <clinit>() { push 4;" + P + "return; } static field int f; } ";
        says(c, "A: new L; pop; B: return; H: is Cast;" + P + "new L; pop; getstatic L.f;" + P + "return; catch Throwable A B H;", 1, 2, 1, 0);
        ThreadJudge x = begun(c, "A: new L; pop; B: return; H: return; catch Cast A B H;");
        steps(x, 0, 1);
        Judged.due("frames", x.state(0, 1), 5);
        steps(x, 0, 3 + 2 + 2);
        Judged.due("frames go", x.state(0, 1), 1);
        Judged.due("at H", x.state(0, 2), x.count(6) - 1);
        Judged.due("all have begun, Out, Cast, Throwable too", x.count(23), 9);
        // a 'catch' of a frame that goes is not looked at; nor is that of what has begun in it
        String caught = "A: push 1; pop; B: return; H: push 9;" + P + "return; catch Throwable A B H; ";
        String rest = "class S { static method void <clinit>() { new Cast; throw; } } class K extends S { static method void <clinit>() { " + caught + "} } class L extends K { static method void <clinit>() { " + caught + "} } ";
        says(rest, "A: new L; pop; B: return; H: is Cast;" + P + "new L; pop; new K; pop; return; catch Throwable A B H;", 1);
        says(rest.replace("new Cast; throw;", "A: new Cast; throw; B: null; H: new Index; throw; catch Cast A B H;"), "A: new L; pop; B: return; H: is Index;" + P + "return; catch Throwable A B H;", 1);
        // the one in the middle: what is above it has ended, what is below it goes
        says("class R { static method void <clinit>() { push 5;" + P + "return; } } class S extends R { static method void <clinit>() { new Cast; throw; } } class K extends S { static method void <clinit>() { " + caught + "} } ", "A: new K; pop; B: return; H: is Cast;" + P + "return; catch Throwable A B H;", 5, 1);
        // a call by where such a frame stood goes as any other
        says("class S { static method void <clinit>() { return; } } class K extends S { static method void <clinit>() { return; } static field int f; } class M { static method void a() { A: call void M.b(); B: return; H: is Cast;" + P + "return; catch Throwable A B H; } static method void b() { new Cast; throw; } } ", "A: getstatic K.f; pop; call void M.a(); push 6;" + P + "B: return; H: push 9;" + P + "return; catch Throwable A B H;", 1, 6);
        // those that began by another instruction stay
        x = begun("class S { static method void <clinit>() { A: new K; pop; B: return; H: return; catch Cast A B H; } } class K { static method void <clinit>() { new Cast; throw; } } ", "new S; return;");
        steps(x, 0, 1 + 1 + 2);
        Judged.due("S's stays", x.state(0, 1), 2);
        Judged.due("at its H", x.state(0, 3), 17);
        // a frame that a <clinit> called goes first
        says("class S { static method void <clinit>() { call void K.k(); return; } } class K extends S { static method void <clinit>() { push 7;" + P + "return; } static method void k() { new Cast; throw; } } ", "A: new S; pop; B: return; H: is Cast;" + P + "return; catch Throwable A B H;", 7, 1);
        // a <clinit> that catches itself ends as others do
        says("class S { static method void <clinit>() { A: new Cast; throw; B: null; H: pop; push 5;" + P + "return; catch Cast A B H; } } ", "new S; pop; push 6;" + P + "return;", 5, 6);
    }

    /** "If none is below: the thread is ENDED" */
    private static void threadEnds() {
        ThreadJudge x = begun("", "new Cast; throw;");
        steps(x, 0, 2);
        Judged.due("ended", x.state(0, 0), 4);
        Judged.due("no frames", x.state(0, 1), 0);
        Judged.due("no instruction", x.state(0, 2), -1);
        Judged.due("no method", x.state(0, 3), -1);
        Judged.due("no thing", x.state(0, 4), -1);
        Judged.due("no local", x.local(0, 0), -1);
        Judged.due("no step", x.step(0), 0);
        // main has no uncaught, even if it is called in a Thread's class
        x = begun("class Main extends Thread { static method void main() { new Cast; throw; } method void uncaught(Throwable) { push 1;" + P + "return; } }");
        x.run(20, 1);
        Judged.due("nothing said", x.count(20), 0);
    }

    /** "but if its first frame was run of a thread, uncaught of that thing is called with it (once; what that lets go is lost)" */
    private static void uncaughtOnce() {
        String t = "class T extends Thread { method void run() { call void T.s(); return; } static method void s() { new Cast; throw; } method void uncaught(Throwable) { load 1; is Cast;" + P + "load 0; is T;" + P + "new Index; throw; } } ";
        ThreadJudge x = begun(t, "new T; virtual void Thread.start(); return;");
        steps(x, 0, 3);
        steps(x, 1, 3);
        Judged.due("uncaught's frame", x.state(1, 3), 19);
        Judged.due("alone", x.state(1, 1), 1);
        Judged.due("receiver", x.local(1, 0), 0);
        Judged.due("value", x.local(1, 1), 1);
        x.run(50, 1);
        Judged.due("said", x.count(20), 2);
        Judged.due("right", x.said(0) + x.said(1), 2);
        Judged.due("ended", x.state(1, 0), 4);
        // by hook, too; and by run that is called, not started, it is not
        x = begun(t, "new T; call void Runtime.hook(Thread); return;");
        x.run(50, 1);
        Judged.due("hooked: said", x.count(20), 2);
        x = begun(t, "new T; virtual void Thread.run(); return;");
        x.run(50, 1);
        Judged.due("called: not", x.count(20), 0);
        // none selected: it is ended
        x = begun("abstract class U extends Thread { abstract method void uncaught(Throwable); } class T extends U { method void run() { new Cast; throw; } } ", "new T; virtual void Thread.start(); return;");
        steps(x, 0, 3);
        steps(x, 1, 2);
        Judged.due("ended", x.state(1, 0), 4);
        // join goes on when that is ended, not before
        x = begun(t, "new T; dup; virtual void Thread.start(); virtual void Thread.join(); return;");
        steps(x, 0, 3);
        steps(x, 1, 3);
        Judged.due("still waits", x.state(0, 0), 3);
        steps(x, 1, 8);
        Judged.due("ended", x.state(1, 0), 4);
        Judged.due("goes on", x.state(0, 0), 0);
    }

    // ---- monitors

    /** "53: free, or its own: it is entered, otherwise the thread WAITS FOR it (the step does nothing)." */
    private static void enterAndExit() {
        ThreadJudge x = fields("class T extends Thread { method void run() { getstatic Main.o; enter; null; exit; return; } } ", "static field Object o;", "new Object; putstatic Main.o; new T; virtual void Thread.start(); getstatic Main.o; enter; getstatic Main.o; enter; getstatic Main.o; exit; getstatic Main.o; exit; return;");
        Judged.due("not entered", x.count(18), 0);
        steps(x, 0, 4);
        Judged.due("entered by none", x.thing(0, 4), -1);
        Judged.due("entered 0 times", x.thing(0, 3), 0);
        steps(x, 0, 2);
        Judged.due("entered by 0", x.thing(0, 4), 0);
        steps(x, 1, 1);
        Judged.due("waits", x.state(1, 0), 1);
        Judged.due("for", x.state(1, 4), 0);
        Judged.due("does nothing", x.step(1), 0);
        Judged.due("it stands at 53", x.state(1, 2), 15);
        Judged.due("with its stack", x.local(1, 10), 0);
        steps(x, 0, 2);
        Judged.due("twice", x.thing(0, 3), 2);
        steps(x, 0, 2);
        Judged.due("once", x.thing(0, 3), 1);
        Judged.due("still waits", x.state(1, 0), 1);
        steps(x, 0, 2);
        Judged.due("free", x.thing(0, 4), -1);
        Judged.due("goes on", x.state(1, 0), 0);
        steps(x, 1, 1);
        Judged.due("entered by 1", x.thing(0, 4), 1);
        Judged.due("for nothing", x.state(1, 4), -1);
    }

    /** "54: what is not the last thing that this frame entered and did not exit: Monitor." */
    private static void lastThingEntered() {
        String k = "class K { static method void m(Object, Object) { load 0; enter; load 1; enter; load @; exit; load #; exit; return; } static method void n(Object) { load 0; enter; new K; exit; return; } static method void o(Object) { load 0; enter; call void K.p(Object); null; exit; return; } } ";
        String lines = "new Main; store 1; new Main; store 2; A: load 1; load 2; call void K.m(Object, Object); push 7;" + P + "B: return; H: is Monitor;" + P + "return; catch Throwable A B H;";
        String fixed = k.replace("static method void o(Object) { load 0; enter; call void K.p(Object); null; exit; return; }", "");
        says(fixed.replace("@", "1").replace("#", "0"), lines, 7);
        says(fixed.replace("@", "0").replace("#", "1"), lines, 1);
        says(fixed.replace("@", "1").replace("#", "1"), lines, 1);
        says(fixed.replace("@", "0").replace("#", "0"), lines.replace("load 2; call", "load 1; call"), 7);
        says(fixed.replace("@", "1").replace("#", "0"), lines.replace("load 1; load 2; call void K.m(Object, Object);", "load 1; call void K.n(Object);"), 1);
        // another frame's does not count, nor does the LOCK
        says("class K { static method void n(Object) { new K; enter; load 0; exit; return; } } ", "new Main; store 1; load 1; enter; call void K2.x(Object); load 1; exit; return;".replace("call void K2.x(Object);", "A: load 1; call void K.n(Object); B: goto E; H: is Monitor;" + P + "E: ") + " catch Throwable A B H;", 1);
        says("class K { synchronized method void m() { new K; enter; load 0; exit; return; } } ", "A: new K; virtual void K.m(); B: return; H: is Monitor;" + P + "return; catch Throwable A B H;", 1);
        ThreadJudge x = begun("class K { synchronized method void m() { load 0; enter; load 0; exit; new K; enter; load 0; exit; return; } } ", "new K; virtual void K.m(); return;");
        steps(x, 0, 2);
        Judged.due("the LOCK", x.thing(0, 3), 1);
        steps(x, 0, 2);
        Judged.due("and 53", x.thing(0, 3), 2);
        steps(x, 0, 2);
        Judged.due("54 is of the 53", x.thing(0, 3), 1);
        steps(x, 0, 4);
        Judged.due("54 never is about the LOCK", x.thing(2, 1), 5012);
        Judged.due("ended", x.state(0, 0), 4);
        Judged.due("let go", x.thing(0, 3), 0);
    }

    /** What is not 'synchronized' waits for no LOCK, though the thing or the CLASS is entered by another thread. */
    private static void callsWithoutLocks() {
        String k = "class K { method void p() { return; } static method void q() { return; } method Object o() { null; give; } static method Object r() { null; give; } synchronized method void m() { return; } static synchronized method void s() { return; } static synchronized method void hold() { W: goto W; } method void init() { return; } } "
            + "class T extends Thread { method void run() { getstatic Main.k; enter; call void K.hold(); null; exit; return; } } class Main { static field K k; static field Method o; static field Method r; static field Class c; static method void main() { new K; putstatic Main.k; "
            + "string \"K\"; call Class Class.named(String); dup; putstatic Main.c; dup; string \"o\"; virtual Method Class.find(String); putstatic Main.o; string \"r\"; virtual Method Class.find(String); putstatic Main.r; new T; virtual void Thread.start(); push 1; pop; @ return; } }";
        String[] goes = {"getstatic Main.k; virtual void K.p();", "call void K.q();", "getstatic Main.k; special void Object.<init>();", "lambda Runnable void K.q(); virtual void Runnable.run();", "getstatic Main.o; getstatic Main.k; virtual Object Method.invoke(Object); pop;",
            "getstatic Main.r; null; virtual Object Method.invoke(Object); pop;", "getstatic Main.c; virtual Object Class.newInstance(); pop;", "new K; virtual void K.m();", "new K; enter; null; exit;", "getstatic Main.k; is K; pop;"};
        String[] waits = {"getstatic Main.k; virtual void K.m();", "call void K.s();", "lambda Runnable void K.s(); virtual void Runnable.run();", "getstatic Main.k; enter; null; exit;", "getstatic Main.c; enter; null; exit;"};
        for (int n = 0; n < goes.length + waits.length; n++) {
            boolean free = n < goes.length;
            String lines = free ? goes[n] : waits[n - goes.length];
            ThreadJudge x = begun(k.replace("@", lines));
            steps(x, 0, 16);
            steps(x, 1, 4);
            Judged.due("K is entered", x.thing(0, 4), 1);
            for (int step = 0; step < 20 && x.step(0) == 1; step++) {
                continue;
            }
            Judged.due((free ? "ends: " : "waits: ") + lines, x.state(0, 0), free ? 4 : 1);
            Judged.due("the other one goes on", x.step(1), 1);
        }
    }

    /** "A 'synchronized' method that an instruction calls: the instruction waits likewise, its LOCK is entered when the frame comes" .. "A CLASS is a thing, if not before, when its LOCK is entered. The LOCK is let go when the frame goes" */
    private static void locks() {
        ThreadJudge x = fields("class K { synchronized method void m() { return; } static synchronized method void s() { return; } } class T extends Thread { method void run() { getstatic Main.k; virtual void K.m(); call void K.s(); return; } } ", "static field K k;",
            "new K; putstatic Main.k; new T; virtual void Thread.start(); getstatic Main.k; virtual void K.m(); call void K.s(); return;");
        steps(x, 0, 5);
        steps(x, 1, 1);
        Judged.due("free", x.state(1, 0), 0);
        Judged.due("the frame comes", x.step(0), 1);
        Judged.due("entered at once", x.thing(0, 4), 0);
        Judged.due("method", x.state(0, 3), 17);
        Judged.due("waits at the call", x.state(1, 0), 1);
        Judged.due("for the receiver", x.state(1, 4), 0);
        Judged.due("no frame", x.state(1, 1), 1);
        Judged.due("does nothing", x.step(1), 0);
        steps(x, 0, 1);
        Judged.due("let go when the frame goes", x.thing(0, 4), -1);
        steps(x, 1, 1);
        Judged.due("entered", x.thing(0, 4), 1);
        steps(x, 1, 1);
        Judged.due("things: K, T", x.count(18), 2);
        steps(x, 0, 1);
        Judged.due("the CLASS is a thing", x.count(18), 3);
        Judged.due("of Class", x.thing(2, 0), 3);
        Judged.due("its site", x.thing(2, 1), 3019);
        Judged.due("entered", x.thing(2, 4), 0);
        Judged.due("waits", x.state(1, 0), 1);
        Judged.due("for the CLASS", x.state(1, 4), 2);
        steps(x, 0, 1);
        steps(x, 1, 1);
        Judged.due("the same CLASS", x.count(18), 3);
        Judged.due("entered", x.thing(2, 4), 1);
        // its own: again and again
        x = begun("class K { synchronized method void m() { load 0; virtual void K.n(); return; } synchronized method void n() { return; } } ", "new K; virtual void K.m(); return;");
        steps(x, 0, 4);
        Judged.due("twice", x.thing(0, 3), 2);
        steps(x, 0, 1);
        Judged.due("once", x.thing(0, 3), 1);
        // of the class that has the method, by a lambda and by invoke, too
        x = begun("class K { static synchronized method void s() { return; } } class L extends K { } ", "call void L.s(); lambda Runnable void L.s(); virtual void Runnable.run(); string \"K\"; call Class Class.named(String); string \"s\"; virtual Method Class.find(String); null; virtual Object Method.invoke(Object); return;");
        steps(x, 0, 1);
        Judged.due("K's", x.thing(0, 1), 3019);
        Judged.due("entered", x.thing(0, 3), 1);
        steps(x, 0, 3);
        Judged.due("by a lambda", x.thing(0, 3), 1);
        steps(x, 0, 1 + 6);
        Judged.due("by invoke", x.thing(0, 3), 1);
        steps(x, 0, 1);
        Judged.due("let go", x.thing(0, 3), 0);
    }

    /** "run, uncaught, MAIN: the frame's first step is that it enters it (it waits for it, if it is not free)" */
    private static void lockOfFirstFrames() {
        ThreadJudge x = begun("class T extends Thread { synchronized method void run() { new Cast; throw; } synchronized method void uncaught(Throwable) { return; } } ", "new T; store 1; load 1; enter; load 1; virtual void Thread.start(); load 1; exit; load 1; enter; load 1; exit; return;");
        steps(x, 0, 6);
        Judged.due("waits", x.state(1, 0), 1);
        Judged.due("for", x.state(1, 4), 0);
        Judged.due("with its frame", x.state(1, 1), 1);
        Judged.due("at the first", x.state(1, 2), 14);
        Judged.due("does nothing", x.step(1), 0);
        steps(x, 0, 2);
        Judged.due("free", x.state(1, 0), 0);
        steps(x, 1, 1);
        Judged.due("entered", x.thing(0, 4), 1);
        Judged.due("still at the first", x.state(1, 2), 14);
        steps(x, 1, 2);
        Judged.due("run's is let go", x.thing(0, 3), 0);
        Judged.due("uncaught", x.state(1, 3), 18);
        steps(x, 0, 2);
        Judged.due("uncaught waits", x.state(1, 0), 1);
        steps(x, 0, 2);
        steps(x, 1, 1);
        Judged.due("entered by uncaught", x.thing(0, 4), 1);
        steps(x, 1, 1);
        Judged.due("ended", x.state(1, 0), 4);
        Judged.due("let go", x.thing(0, 4), -1);
        x = begun("class Main { static synchronized method void main() { push 1; return; } }");
        Judged.due("no thing yet", x.count(18), 0);
        steps(x, 0, 1);
        Judged.due("the CLASS", x.thing(0, 1), 3019);
        Judged.due("entered", x.thing(0, 4), 0);
        Judged.due("at its first", x.state(0, 2), 14);
        steps(x, 0, 2);
        Judged.due("let go", x.thing(0, 3), 0);
        // run that is called enters when its frame comes
        x = begun("class T extends Thread { synchronized method void run() { return; } } ", "new T; virtual void Thread.run(); return;");
        steps(x, 0, 2);
        Judged.due("entered at once", x.thing(0, 3), 1);
    }

    // ---- wait and notify

    /** "wait: Monitor if it has not entered it; otherwise it lets it go wholly and SLEEPS; told by notify, it waits for it, and has it as before. notify: Monitor likewise" */
    private static void waitAndNotify() {
        for (String native_ : new String[] {"wait", "notify", "notifyAll"}) {
            raises("new K; virtual void Object." + native_ + "();", 12);
            ThreadJudge x = fields("class T extends Thread { method void run() { getstatic Main.o; virtual void Object." + native_ + "(); return; } } ", "static field Object o;", "new Object; putstatic Main.o; new T; virtual void Thread.start(); getstatic Main.o; enter; getstatic Main.o; exit; return;");
            steps(x, 0, 6);
            steps(x, 1, 2);
            Judged.due("entered by another one: Monitor", x.thing(2, 1), 5012);
        }
        ThreadJudge x = fields("class T extends Thread { method void run() { getstatic Main.o; store 1; load 1; enter; load 1; enter; load 1; enter; load 1; virtual void Object.wait(); load 1; exit; load 1; exit; load 1; exit; return; } } ", "static field Object o;",
            "new Object; putstatic Main.o; new T; virtual void Thread.start(); getstatic Main.o; store 1; load 1; enter; load 1; virtual void Object.notify(); load 1; virtual void Object.notify(); load 1; exit; return;");
        steps(x, 0, 4);
        steps(x, 1, 8);
        Judged.due("three times", x.thing(0, 3), 3);
        steps(x, 1, 2);
        Judged.due("sleeps", x.state(1, 0), 2);
        Judged.due("at", x.state(1, 4), 0);
        Judged.due("wholly let go", x.thing(0, 3), 0);
        Judged.due("by none", x.thing(0, 4), -1);
        Judged.due("does nothing", x.step(1), 0);
        steps(x, 0, 4);
        Judged.due("still sleeps", x.state(1, 0), 2);
        steps(x, 0, 2);
        Judged.due("told: waits for it", x.state(1, 0), 1);
        Judged.due("it", x.state(1, 4), 0);
        Judged.due("does nothing", x.step(1), 0);
        Judged.due("none is left to tell", x.step(0) + x.step(0), 2);
        steps(x, 0, 2);
        Judged.due("can go on", x.state(1, 0), 0);
        Judged.due("but has not got it", x.thing(0, 3), 0);
        steps(x, 1, 1);
        Judged.due("has it as before", x.thing(0, 3), 3);
        Judged.due("by 1", x.thing(0, 4), 1);
        steps(x, 1, 6);
        Judged.due("let go", x.thing(0, 3), 0);
        // one that sleeps is not told by what is at another thing
        x = fields("class T extends Thread { method void run() { getstatic Main.o; enter; getstatic Main.o; virtual void Object.wait(); getstatic Main.o; exit; return; } } ", "static field Object o; static field Object p;", "new Object; putstatic Main.o; new Object; putstatic Main.p; new T; virtual void Thread.start(); getstatic Main.p; enter; getstatic Main.p; virtual void Object.notifyAll(); getstatic Main.p; exit; return;");
        steps(x, 0, 6);
        steps(x, 1, 4);
        steps(x, 0, 7);
        Judged.due("sleeps for ever", x.state(1, 0), 2);
        Judged.due("none can go on", x.run(10, 1), 0);
    }

    /** "the one that sleeps there longest is told, if any; notifyAll: all" */
    private static void longestIsTold() {
        String text = "class T extends Thread { method void run() { getstatic Main.o; enter; getstatic Main.o; virtual void Object.wait(); getstatic Main.o; exit; return; } } ";
        String starts = "new Object; putstatic Main.o; new T; virtual void Thread.start(); new T; virtual void Thread.start(); new T; virtual void Thread.start(); getstatic Main.o; enter; ";
        String notify = "getstatic Main.o; virtual void Object.notify(); ";
        ThreadJudge x = fields(text, "static field Object o;", starts + notify + notify + notify + notify + "getstatic Main.o; exit; return;");
        steps(x, 0, 8);
        for (int t : new int[] {2, 3, 1}) {
            steps(x, t, 4);
        }
        steps(x, 0, 2);
        int[] order = {2, 3, 1};
        for (int k = 0; k < 3; k++) {
            steps(x, 0, 2);
            for (int j = 0; j < 3; j++) {
                Judged.due("thread " + order[j] + " behind notify " + k, x.state(order[j], 0), j <= k ? 1 : 2);
            }
        }
        steps(x, 0, 2);
        // thread 0 sleeps longest, or last
        for (int first = 0; first < 2; first++) {
            x = fields("class T extends Thread { method void run() { getstatic Main.o; enter; getstatic Main.o; virtual void Object.wait(); getstatic Main.o; exit; return; } } class U extends Thread { method void run() { getstatic Main.o; enter; " + notify + notify + "getstatic Main.o; exit; return; } } ", "static field Object o;",
                "new Object; putstatic Main.o; new T; virtual void Thread.start(); new U; virtual void Thread.start(); getstatic Main.o; enter; getstatic Main.o; virtual void Object.wait(); getstatic Main.o; exit; return;");
            steps(x, 0, 6);
            steps(x, first, 4);
            steps(x, 1 - first, 4);
            steps(x, 2, 4);
            Judged.due("the first is told", x.state(first, 0), 1);
            Judged.due("the other one sleeps", x.state(1 - first, 0), 2);
            steps(x, 2, 2);
            Judged.due("then the other", x.state(1 - first, 0), 1);
        }
        x = fields(text, "static field Object o;", starts + notify.replace("notify", "notifyAll") + "getstatic Main.o; exit; return;");
        steps(x, 0, 8);
        for (int t : new int[] {3, 1}) {
            steps(x, t, 4);
        }
        steps(x, 0, 4);
        Judged.due("all that sleep", x.state(1, 0) * 10 + x.state(3, 0), 11);
        Judged.due("another one goes its way", x.state(2, 0), 0);
    }

    // ---- threads

    /** "start: State, if it was started (or begun by hook); else there is a new thread with run's frame (none, if none is selected: it is ENDED)." */
    private static void startAndState() {
        String t = "class T extends Thread { method void run() { return; } } abstract class U extends Thread { abstract method void run(); } class V extends U { } ";
        ThreadJudge x = begun(t, "new T; dup; store 1; virtual void Thread.start(); A: load 1; virtual void Thread.start(); B: return; H: return; catch State A B H;");
        steps(x, 0, 4);
        Judged.due("threads", x.count(19), 2);
        Judged.due("run's frame", x.state(1, 3), 17);
        Judged.due("its receiver", x.local(1, 0), 0);
        Judged.due("goes", x.state(1, 0), 0);
        steps(x, 0, 2);
        Judged.due("State", x.thing(1, 1), 5013);
        Judged.due("no thread more", x.count(19), 2);
        // also when that is ended
        says(t, "new T; dup; store 1; virtual void Thread.start(); load 1; virtual void Thread.join(); A: load 1; virtual void Thread.start(); B: return; H: is State;" + P + "return; catch Throwable A B H;", 1);
        // none is selected: ended at once
        x = begun(t, "new V; dup; store 1; virtual void Thread.start(); load 1; virtual void Thread.join(); load 1; virtual void Thread.start(); return;");
        steps(x, 0, 4);
        Judged.due("ended", x.state(1, 0), 4);
        Judged.due("no frames", x.state(1, 1), 0);
        steps(x, 0, 3);
        Judged.due("join goes on", x.state(0, 0), 0);
        steps(x, 0, 1);
        Judged.due("State", x.thing(1, 1), 5013);
        // begun by hook
        x = begun("class T extends Thread { method void run() { getstatic Main.t; ifsome L; load 0; putstatic Main.t; new T; call void Runtime.hook(Thread); return; L: A: getstatic Main.t; virtual void Thread.start(); B: return; H: is State;" + P + "return; catch Throwable A B H; } } class Main { static field Thread t; static method void main() { new T; call void Runtime.hook(Thread); return; } }");
        x.run(100, 1);
        Judged.due("said", x.count(20), 1);
        Judged.due("State", x.said(0), 1);
        Judged.due("threads", x.count(19), 3);
    }

    /** "join: waits until that is ended (not, if it was not started)." */
    private static void join() {
        ThreadJudge x = begun("class T extends Thread { method void run() { load 0; virtual void Thread.join(); return; } } class U extends Thread { method void run() { return; } } ", "new U; store 1; load 1; virtual void Thread.join(); load 1; virtual void Thread.start(); load 1; virtual void Thread.join(); new T; virtual void Thread.start(); return;");
        steps(x, 0, 4);
        Judged.due("was not started", x.count(19), 1);
        steps(x, 0, 3);
        Judged.due("waits", x.state(0, 0), 3);
        Judged.due("for no thing", x.state(0, 4), -1);
        Judged.due("does nothing", x.step(0), 0);
        steps(x, 1, 1);
        Judged.due("goes on", x.state(0, 0), 0);
        steps(x, 0, 3);
        steps(x, 2, 1);
        Judged.due("itself: waits for ever", x.state(2, 0), 3);
    }

    /** "hook: it is noted; when all threads are ended, those that are noted and were not started begin, in order, all at once (behind a step; each once; then the row of those that are noted is empty; what is noted later begins when all threads are ended anew)" */
    private static void hooksBegin() {
        String t = "class T extends Thread { field int n; method void run() { load 0; get T.n;" + P + "return; } } class U extends Thread { method void run() { push 9;" + P + "new T; dup; push 5; put T.n; call void Runtime.hook(Thread); getstatic Main.a; call void Runtime.hook(Thread); push 10;" + P + "return; } } ";
        String make = "new T; dup; push @; put T.n; putstatic Main.#; ";
        String lines = make.replace("@", "1").replace("#", "a") + make.replace("@", "2").replace("#", "b") + make.replace("@", "3").replace("#", "c");
        String hook = "getstatic Main.#; call void Runtime.hook(Thread); ";
        ThreadJudge x = fields(t, "static field T a; static field T b; static field T c;", lines + hook.replace("#", "b") + hook.replace("#", "a") + hook.replace("#", "b") + hook.replace("#", "c") + "getstatic Main.c; virtual void Thread.start(); new U; call void Runtime.hook(Thread); return;");
        steps(x, 0, 15 + 8 + 2 + 2);
        Judged.due("c was started", x.count(19), 2);
        steps(x, 0, 1);
        Judged.due("main is ended, c not: none begins", x.count(19), 2);
        steps(x, 1, 3);
        Judged.due("c is not ended yet", x.count(19), 2);
        Judged.due("its last step", x.step(1), 1);
        Judged.due("all at once: b, a, U", x.count(19), 5);
        Judged.due("b is first", x.local(2, 0), 1);
        Judged.due("then a", x.local(3, 0), 0);
        Judged.due("then U", x.state(4, 3), 18);
        steps(x, 2, 4);
        steps(x, 3, 4);
        Judged.due("what is noted later waits", x.count(19), 5);
        steps(x, 4, 2 + 7);
        Judged.due("still", x.count(19), 5);
        steps(x, 4, 3);
        Judged.due("then it begins, a not anew", x.count(19), 6);
        steps(x, 5, 4);
        Judged.due("no more", x.count(19), 6);
        Judged.due("said", x.count(20), 6);
        Judged.due("none can go on", x.run(10, 1), 0);
        Judged.due("not full", x.count(24), 0);
    }

    /** "if that would be more than 12 threads, none of them does, and the run is FULL" */
    private static void hooksAreTooMany() {
        for (int n = 11; n < 13; n++) {
            ThreadJudge x = begun("class T extends Thread { method void run() { return; } } ", "push " + n + "; store 1; L: new T; call void Runtime.hook(Thread); inc 1 -1; load 1; ifgt L; return;");
            steps(x, 0, 2 + n * 5);
            Judged.due("the last step is done", x.step(0), 1);
            Judged.due("threads", x.count(19), n == 11 ? 12 : 1);
            Judged.due("full", x.count(24), n == 11 ? 0 : 1);
            Judged.due("steps", x.count(17), 3 + n * 5);
            Judged.due("nothing goes on", x.run(100, 1), n == 11 ? 11 : 0);
        }
        // one that is noted again does not count anew
        ThreadJudge y = begun("class T extends Thread { method void run() { return; } } ", "push 11; store 1; L: new T; dup; call void Runtime.hook(Thread); dup; call void Runtime.hook(Thread); dup; store 2; call void Runtime.hook(Thread); inc 1 -1; load 1; ifgt L; load 2; call void Runtime.hook(Thread); return;");
        y.run(2000, 1);
        Judged.due("eleven and main", y.count(19), 12);
        Judged.due("not full", y.count(24), 0);
        // those that were started do not count
        ThreadJudge x = begun("class T extends Thread { method void run() { return; } } ", "push 6; store 1; L: new T; dup; call void Runtime.hook(Thread); virtual void Thread.start(); inc 1 -1; load 1; ifgt L; push 5; store 1; M: new T; call void Runtime.hook(Thread); inc 1 -1; load 1; ifgt M; return;");
        x.run(2000, 1);
        Judged.due("threads", x.count(19), 12);
        Judged.due("not full", x.count(24), 0);
        for (int more = 0; more < 3; more++) {
            for (int started = 1; started < 6; started++) {
                int others = 11 - started + more - 1;
                x = begun("class T extends Thread { method void run() { return; } } ", "push " + started + "; store 1; L: new T; dup; call void Runtime.hook(Thread); virtual void Thread.start(); inc 1 -1; load 1; ifgt L; push "
                    + others + "; store 1; M: new T; call void Runtime.hook(Thread); inc 1 -1; load 1; ifgt M; return;");
                x.run(2000, 1);
                Judged.due("threads", x.count(19), more < 2 ? 1 + started + others : 1 + started);
                Judged.due("full", x.count(24), more < 2 ? 0 : 1);
            }
        }
    }

    // ---- natives

    /** "named of what is no STRING (things that 42 makes of class String are none) or no class's name" */
    private static void named() {
        raises("new String; call Class Class.named(String); pop;", 14);
        raises("string \"k\"; call Class Class.named(String); pop;", 14);
        raises("string \"\"; call Class Class.named(String); pop;", 14);
        raises("string \"int\"; call Class Class.named(String); pop;", 14);
        raises("string \"K[]\"; call Class Class.named(String); pop;", 14);
        raises("string \" K\"; call Class Class.named(String); pop;", 14);
        for (String name : new String[] {"K", "I", "Ab", "Object", "Runnable", "NoMethod", "Main", "Runtime"}) {
            raises("string \"" + name + "\"; call Class Class.named(String); pop;", -1);
        }
        ThreadJudge x = begun(K, "string \"I\"; call Class Class.named(String); return;");
        steps(x, 0, 2);
        Judged.due("the CLASS", x.thing(x.local(0, 10), 1), 3021);
        Judged.due("of Class", x.thing(x.local(0, 10), 0), 3);
    }

    /** "newInstance of what is no CLASS, or of one that is an interface or abstract: NoClass" */
    private static void newInstance() {
        raises("new Class; virtual Object Class.newInstance(); pop;", 14);
        for (String name : new String[] {"I", "Ab", "Runnable"}) {
            raises("string \"" + name + "\"; call Class Class.named(String); virtual Object Class.newInstance(); pop;", 14);
        }
        for (String name : new String[] {"K", "C", "Co", "Object", "String", "Class", "Method", "Thread", "Cast", "Out"}) {
            raises("string \"" + name + "\"; call Class Class.named(String); virtual Object Class.newInstance(); pop;", -1);
        }
        ThreadJudge x = begun("class K { field int n; method void <init>() { load 0; push 4; put K.n; return; } } class L extends K { method void <init>(int) { return; } } ", "string \"L\"; call Class Class.named(String); virtual Object Class.newInstance(); return;");
        steps(x, 0, 3);
        Judged.due("<init> is called", x.state(0, 3), 17);
        Judged.due("it is made", x.thing(2, 1), 6020);
        Judged.due("of L", x.thing(2, 0), 20);
        Judged.due("receiver", x.local(0, 0), 2);
        steps(x, 0, 4);
        Judged.due("left", x.local(0, 10), 2);
        Judged.due("n", x.value(2, 1), 4);
        steps(x, 0, 1);
        // what named made of String is no STRING
        says("", "A: string \"String\"; call Class Class.named(String); virtual Object Class.newInstance(); cast String; call Class Class.named(String); pop; B: return; H: is NoClass;" + P + "return; catch Throwable A B H;", 1);
    }

    /** "find of what is no CLASS, by what is no STRING, or where there is no such method: NoMethod" */
    private static void find() {
        String cls = "string \"C\"; call Class Class.named(String); ";
        raises("new Class; string \"m\"; virtual Method Class.find(String); pop;", 15);
        raises(cls + "new String; virtual Method Class.find(String); pop;", 15);
        raises(cls + "string \"q\"; virtual Method Class.find(String); pop;", 15);
        raises(cls + "string \"\"; virtual Method Class.find(String); pop;", 15);
        raises(cls + "string \"<init>\"; virtual Method Class.find(String); pop;", 15);
        raises(cls + "string \"wait\"; virtual Method Class.find(String); pop;", 15);
        raises(cls + "string \"n\"; virtual Method Class.find(String); pop;", 15);
        raises("string \"Ab\"; call Class Class.named(String); string \"v\"; virtual Method Class.find(String); pop;", 15);
        raises("string \"Thread\"; call Class Class.named(String); string \"uncaught\"; virtual Method Class.find(String); pop;", 15);
        raises("string \"Main\"; call Class Class.named(String); string \"main\"; virtual Method Class.find(String); pop;", -1);
        // none with <, also of a class that has them
        for (String name : new String[] {"<init>", "<clinit>"}) {
            says("class L { static method void <clinit>() { return; } method void <init>() { return; } } ", "A: string \"L\"; call Class Class.named(String); string \"" + name + "\"; virtual Method Class.find(String); pop; B: return; H: is NoMethod;" + P + "return; catch Throwable A B H;", 1);
        }
        ThreadJudge x = begun(K, cls + "string \"m\"; virtual Method Class.find(String); return;");
        steps(x, 0, 4);
        Judged.due("of what it extends", x.thing(x.local(0, 10), 1), 4017);
        Judged.due("of Method", x.thing(x.local(0, 10), 0), 4);
    }

    /** "invoke of what is no METHOD (before all else), or with what is not below the class of the METHOD: Cast; with null: NullPointer (but static)." */
    private static void invoke() {
        String m = "string \"K\"; call Class Class.named(String); string \"m\"; virtual Method Class.find(String); ";
        raises("new Method; null; virtual Object Method.invoke(Object); pop;", 9);
        raises("new Method; new K; virtual Object Method.invoke(Object); pop;", 9);
        raises(m + "new B; virtual Object Method.invoke(Object); pop;", 9);
        raises(m + "push 1; array K; virtual Object Method.invoke(Object); pop;", 9);
        raises(m + "null; virtual Object Method.invoke(Object); pop;", 6);
        raises(m + "new K; virtual Object Method.invoke(Object); pop;", -1);
        raises(m + "new C; virtual Object Method.invoke(Object); pop;", -1);
        String k = "class K { static method Object s() { push 1;" + P + "string \"s\"; give; } method Object m() { load 0; give; } method int n() { push 7; give; } method void v() { return; } static method int i() { push 1; give; } } class L extends K { method Object m() { push 2;" + P + "null; give; } } abstract class B extends K { abstract method Object m(); } class C extends B { } ";
        String head = "string \"K\"; call Class Class.named(String); store 1; load 1; string \"@\"; virtual Method Class.find(String); ";
        says(k, head.replace("@", "s") + "null; virtual Object Method.invoke(Object); is String;" + P + head.replace("@", "s") + "new Object; virtual Object Method.invoke(Object); is String;" + P + "return;", 1, 1, 1, 1);
        says(k, head.replace("@", "m") + "new K; virtual Object Method.invoke(Object); is K;" + P + head.replace("@", "m") + "new L; virtual Object Method.invoke(Object); ifnull E; return; E: push 3;" + P + "return;", 1, 2, 3);
        says(k, "A: " + head.replace("@", "m") + "new C; virtual Object Method.invoke(Object); pop; B: return; H: is NoMethod;" + P + "return; catch Throwable A B H;", 1);
        for (String name : new String[] {"n", "v", "i"}) {
            says(k, head.replace("@", name) + "new K; virtual Object Method.invoke(Object); ifnull E; return; E: push 5;" + P + "return;", 5);
        }
        // one that is native is not called
        says("interface I { method void notify() { push 8;" + P + "return; } } class A implements I { } ", "A: string \"I\"; call Class Class.named(String); string \"notify\"; virtual Method Class.find(String); new A; virtual Object Method.invoke(Object); pop; B: return; H: is NoMethod;" + P + "return; catch Throwable A B H;", 1);
        // a LAMBDA by what it was made for
        says("interface J { method Object f() { push 1;" + P + "null; give; } } interface F implements J { abstract method Object f(); } class K { static method Object l(int) { load 0;" + P + "null; give; } } ", "string \"J\"; call Class Class.named(String); string \"f\"; virtual Method Class.find(String); push 6; lambda F Object K.l(int); virtual Object Method.invoke(Object); pop; return;", 6);
    }

    /** "A string is one thing each time it comes to be by the same STRING; so are CLASSES, METHODS; they count as things when they first are there." */
    private static void oneThingEach() {
        ThreadJudge x = begun("class K { static method void a() { string \"a\"; pop; return; } static synchronized method void s() { return; } method void m() { return; } } ", "string \"a\"; string \"b\"; string \"a\"; call void K.a(); string \"K\"; call Class Class.named(String); call void K.s(); string \"K\"; call Class Class.named(String); dup; string \"m\"; virtual Method Class.find(String); pop; string \"m\"; virtual Method Class.find(String); return;");
        steps(x, 0, 1);
        Judged.due("a", x.count(18), 1);
        steps(x, 0, 1);
        Judged.due("b", x.count(18), 2);
        steps(x, 0, 1);
        Judged.due("a again", x.count(18), 2);
        Judged.due("the same", x.local(0, 12), x.local(0, 10));
        steps(x, 0, 4);
        Judged.due("in another method", x.count(18), 2);
        steps(x, 0, 2);
        Judged.due("CLASS", x.count(18), 4);
        int cls = x.local(0, 13);
        steps(x, 0, 2);
        Judged.due("its LOCK is the same", x.count(18), 4);
        steps(x, 0, 2);
        Judged.due("named anew", x.local(0, 14), cls);
        Judged.due("no thing more", x.count(18), 4);
        steps(x, 0, 3);
        Judged.due("METHOD", x.count(18), 6);
        int m = x.local(0, 15);
        steps(x, 0, 3);
        Judged.due("the same METHOD", x.local(0, 14), m);
        Judged.due("no more", x.count(18), 6);
    }

    /** "print: the number is SAID (the first 200)." */
    private static void said() {
        for (int n = 199; n < 202; n++) {
            ThreadJudge x = begun("", "push " + n + "; store 1; L: load 1;" + P + "inc 1 -1; load 1; ifgt L; return;");
            x.run(2000, 1);
            Judged.due("said", x.count(20), Math.min(200, n));
            Judged.due("ended", x.state(0, 0), 4);
            Judged.due("first", x.said(0), n);
            Judged.due("last", x.said(Math.min(199, n - 1)), n - Math.min(199, n - 1));
            Judged.due("no more", x.said(200), -1);
            Judged.due("not - 1", x.said(-1), -1);
        }
    }
}
