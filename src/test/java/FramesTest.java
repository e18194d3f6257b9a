/** THE MACHINE in frames that are not the lowest, of threads that are not the first, with things that are not the first: it does there what it does in MAIN's. */
public final class FramesTest {
    private static final String P = " call void Out.print(int); ";
    private static final String CLASSES = "interface F { abstract method int f(int); } class K { field int n; field K k; static field int s; static field K t; "
        + "static method int below(int, int) { push 60; push 50; load 0; load 1; sub; give; } method int v(int) { null; push 3; load 1; load 0; get K.n; add; give; } static method int l(int, int) { push 9; load 0; load 1; sub; give; } "
        + "method int w() { null; load 0; push 6; special int K.v(int); give; } method K m() { push 1; null; load 0; give; } static method void t() { null; push 1; new Cast; throw; } method void <init>() { load 0; push 5; put K.n; return; } synchronized method int y(int) { push 2; load 1; give; } "
        + "static synchronized method int z(int, K) { push 2; null; load 0; give; } } class D { static field int d; static method void <clinit>() { push 31; putstatic D.d; push 1; return; } } ";
    /** Lines, which may stand behind anything on the stack, and what they say. */
    private static final String[] LINES = {
        "push 7; push 3; sub;" + P + "push 6; push 4; mul;" + P + "push -7; push 2; div;" + P + "push -7; push 4; rem;" + P + "push 5; neg;" + P, "4 24 -3 -3 -5",
        "push 12; push 10; and;" + P + "push 12; push 10; or;" + P + "push 12; push 10; xor;" + P + "push 3; push 33; shl;" + P + "push -9; push 1; shr;" + P, "8 14 6 6 -5",
        "push 9; store 5; inc 5 4; load 5;" + P + "push 3; dup; add;" + P + "push 1; push 2; under;" + P + P + P + "push 1; push 2; swap;" + P + P, "13 6 2 1 2 1 2",
        "push 0; ifeq A; push 111;" + P + "A: push 1; push 2; cmplt B; push 112;" + P + "B: null; ifnull C; push 113;" + P + "C: null; new K; other D; push 114;" + P + "D: push 4;" + P + "goto E; push 115;" + P + "E: push 5;" + P, "4 5",
        "push 1; ifeq A; push 111;" + P + "A: push 2; push 1; cmplt B; push 112;" + P + "B: new K; ifnull C; push 113;" + P + "C: null; new K; same D; push 114;" + P + "D: ", "111 112 113 114",
        "new K; store 6; load 6; push 8; put K.n; load 6; get K.n;" + P + "load 6; load 6; put K.k; load 6; get K.k; get K.n;" + P + "push 3; putstatic K.s; getstatic K.s;" + P + "load 6; putstatic K.t; getstatic K.t; get K.n;" + P + "getstatic D.d;" + P, "8 8 3 8 31",
        "push 2; array int; store 7; load 7; push 1; push 77; setelement; load 7; push 1; element;" + P + "load 7; push 0; element;" + P + "load 7; length;" + P
            + "push 3; array K; store 7; new K; store 6; load 6; push 21; put K.n; load 7; push 2; load 6; setelement; load 7; push 2; element; get K.n;" + P + "load 7; length;" + P, "77 0 2 21 3",
        "new K; is K;" + P + "new K; is D;" + P + "null; is K;" + P + "new K; cast K; get K.n;" + P + "string \"a\"; string \"a\"; same A; push 5;" + P + "A: push 6;" + P, "1 0 0 0 6",
        "push 1; push 2; call int K.below(int, int);" + P + "new K; dup; special void K.<init>(); dup; push 4; virtual int K.v(int);" + P + "virtual int K.w();" + P + "push 30; lambda F int K.l(int, int); push 12; virtual int F.f(int);" + P
            + "push 44; null; call int K.z(int, K);" + P + "new K; push 45; virtual int K.y(int);" + P, "-1 9 11 18 44 45",
        "new K; store 6; load 6; enter; load 6; enter; load 6; virtual void Object.notify(); load 6; exit; load 6; exit; push 1;" + P, "1",
        "string \"K\"; call Class Class.named(String); virtual Object Class.newInstance(); cast K; get K.n;" + P + "string \"K\"; call Class Class.named(String); string \"m\"; virtual Method Class.find(String); new K; dup; store 6; virtual Object Method.invoke(Object); load 6; same A; push 5;" + P + "A: push 6;" + P, "5 6"};
    /** Lines that throw, and what: behind them the stack is that alone. */
    private static final String[] THROWS = {"push 1; push 0; div;", "7", "null; get K.n;", "6", "new Object; cast K;", "9", "push 1; array K; push 1; element;", "8", "push 17; array K;", "11", "push 1; array D; cast Object[]; push 0; new K; setelement;", "10",
        "null; enter;", "6", "new State; throw;", "13", "null; throw;", "6", "call void K.t();", "9", "new K; virtual void Object.wait();", "12", "new Thread; dup; virtual void Thread.start(); virtual void Thread.start();", "13",
        "string \"q\"; call Class Class.named(String);", "14", "string \"K\"; call Class Class.named(String); string \"q\"; virtual Method Class.find(String);", "15", "null; push 1; virtual int K.v(int);", "6"};

    private FramesTest() {
    }

    public static void main(String[] args) {
        saidInAnyFrame();
        thrownInAnyFrame();
        toldInAnyFrame();
        locksOfFirstSteps();
        toldByAnyThread();
        placesAreTheirOwn();
        placesAreTheirOwnInEachRun();
        Judged.end();
    }

    /** Puts lines where they are done: in MAIN, in frames above it, in threads, in a <clinit>, behind so many numbers on the stack. */
    private static String within(int where, int numbers, String lines) {
        String all = "push 90; ".repeat(numbers) + lines;
        String q = "class Q extends Thread { static method void q(int) { load 0; ifle L; load 0; push 1; sub; call void Q.q(int); return; L: " + all + " return; } method void run() { push 2; call void Q.q(int); return; } } ";
        switch (where) {
            case 0: return Judged.main(CLASSES, all + " return;");
            case 1: return Judged.main(CLASSES + q, "push 70; push 71; push 3; call void Q.q(int); return;");
            case 2: return Judged.main(CLASSES + q.replace("push 2; call void Q.q(int);", all), "new Q; virtual void Thread.start(); return;");
            case 3: return Judged.main(CLASSES + q, "new Object; pop; new Thread; virtual void Thread.start(); new Q; virtual void Thread.start(); return;");
            case 4: return Judged.main(CLASSES + q + "class R { static field int r; static method void <clinit>() { " + all + " return; } } ", "push 72; getstatic R.r; pop; return;");
            default: return Judged.main(CLASSES + q + "class U extends Thread { method void run() { new Cast; throw; } method void uncaught(Throwable) { " + all + " return; } } ", "new U; call void Runtime.hook(Thread); return;");
        }
    }

    private static void saidInAnyFrame() {
        for (int k = 0; k < LINES.length; k += 2) {
            for (int where = 0; where < 6; where++) {
                for (int numbers = 0; numbers < 5; numbers += 2) {
                    ThreadJudge x = Judged.loaded(within(where, numbers, LINES[k]));
                    x.analyse(k / 2 % 4, 300);
                    x.begin();
                    x.run(500, k);
                    String[] due = LINES[k + 1].split(" ");
                    Judged.due("how many are said at " + where + " behind " + numbers + " by " + LINES[k], x.count(20), due.length);
                    for (int n = 0; n < due.length; n++) {
                        Judged.due(n + " at " + where + " behind " + numbers + " by " + LINES[k], x.said(n), Integer.parseInt(due[n]));
                    }
                    Judged.yes("foreseen", x.foreseen());
                }
            }
        }
    }

    private static void thrownInAnyFrame() {
        for (int k = 0; k < THROWS.length; k += 2) {
            for (int where = 0; where < 6; where++) {
                String name = "NullPointer Arithmetic Index Cast Store Size Monitor State NoClass NoMethod".split(" ")[Integer.parseInt(THROWS[k + 1]) - 6];
                String rest = THROWS[k].endsWith("enter;") ? "null; exit; return; " : "return; ";
                String lines = "push 66; store 5; AA: " + THROWS[k] + " BB: push 99;" + P + rest + "HH: cast " + name + "; pop; load 5;" + P + "catch Throwable AA BB HH; ";
                String text = within(where, k % 3, lines);
                ThreadJudge x = Judged.loaded(text);
                x.analyse(k / 2 % 4, 300);
                x.begin();
                x.run(500, k);
                Judged.due("the handler is come to at " + where + " by " + THROWS[k], x.count(20), 1);
                Judged.due("and the local is there", x.said(0), 66);
                Judged.yes("foreseen", x.foreseen());
            }
        }
    }

    /** state() and local() tell the topmost frame of the thread that is asked about. */
    private static void toldInAnyFrame() {
        String classes = "class Q extends Thread { field int n; static method void q(int) { load 0; ifle L; load 0; push 1; sub; call void Q.q(int); return; L: null; push 55; M: goto M; } method void run() { load 0; get Q.n; store 1; load 1; call void Q.q(int); return; } } ";
        String made = "";
        for (int k = 1; k < 5; k++) {
            made += "new Q; dup; push " + k + "; put Q.n; virtual void Thread.start(); ";
        }
        ThreadJudge x = Judged.loaded(Judged.main(classes, made + "push 44; N: goto N;"));
        x.begin();
        for (int k = 0; k < 400; k++) {
            x.step(k % 5);
        }
        int q = x.method(17, 3);
        for (int t = 1; t < 5; t++) {
            Judged.due("frames of " + t, x.state(t, 1), t + 2);
            Judged.due("method of " + t, x.state(t, 3), 17);
            Judged.due("instruction of " + t, x.state(t, 2), q + 9);
            Judged.due("local 0 of " + t, x.local(t, 0), 0);
            Judged.due("null", x.local(t, 10), -1);
            Judged.due("55", x.local(t, 11), 55);
            Judged.due("no more", x.local(t, 12), -1);
            Judged.due("the thing's field", x.value(t - 1, 2), -1);
            Judged.due("its number", x.value(t - 1, 1), t);
        }
        Judged.due("main's", x.local(0, 10), 44);
        Judged.due("main's frame", x.state(0, 1), 1);
    }

    /** "run, uncaught, MAIN: the frame's first step is that it enters it (it waits for it, if it is not free)": its own LOCK, not that of the first thing. */
    private static void locksOfFirstSteps() {
        for (int more = 0; more < 3; more++) {
            String things = "new Object; store 4; ".repeat(more);
            for (int what = 0; what < 2; what++) {
                String t = "class T extends Thread { " + (what == 0 ? "synchronized method void run() { return; } " : "method void run() { new Cast; throw; } synchronized method void uncaught(Throwable) { return; } ") + "} ";
                // the thing is the thread's, then another one is taken
                for (int taken = 0; taken < 2; taken++) {
                    String enters = taken == 0 ? "load 1; enter; " : "new Object; store 2; load 2; enter; ";
                    String exits = taken == 0 ? "load 1; exit; " : "load 2; exit; ";
                    ThreadJudge x = Judged.loaded(Judged.main(t, things + (taken == 1 ? enters : "") + "new T; store 1; " + (taken == 0 ? enters : "") + "load 1; virtual void Thread.start(); goto E; E: " + exits + "return;"));
                    x.begin();
                    int start = x.method(x.count(5) - 1, 3);
                    for (int k = 0; k < 30 && x.count(19) < 2; k++) {
                        x.step(0);
                    }
                    for (int k = 0; k < 2 * what; k++) {
                        Judged.due("run throws", x.step(1), 1);
                    }
                    int own = more + taken;
                    Judged.due("waits " + what + taken + more, x.state(1, 0), taken == 0 ? 1 : 0);
                    Judged.due("for its LOCK", x.state(1, 4), taken == 0 ? own : -1);
                    Judged.due("step", x.step(1), taken);
                    Judged.due("the LOCK's thread", x.thing(own, 4), taken);
                    Judged.due("begins there", x.state(1, 2), what == 0 ? 14 : 16);
                    Judged.yes("main goes on", start > 0 && x.step(0) == 1);
                }
            }
            // MAIN's: taken by what its class's beginning starts
            String text = "class L { static field Object o; } class Main { static synchronized method void hold() { L: goto L; } static synchronized method void main() { return; } static method void <clinit>() { " + things
                + "new Thread; dup; lambda Runnable void Main.hold(); special void Thread.<init>(Runnable); virtual void Thread.start(); push 40; store 5; N: inc 5 -1; load 5; ifgt N; return; } }";
            for (int first = 0; first < 2; first++) {
                ThreadJudge x = Judged.loaded(text);
                x.begin();
                for (int k = 0; k < 60 && x.count(19) < 2; k++) {
                    x.step(0);
                }
                for (int k = 0; k < 12 * first; k++) {
                    x.step(1);
                }
                for (int k = 0; k < 200 && x.state(0, 1) > 1; k++) {
                    x.step(0);
                }
                Judged.due("MAIN's frame alone", x.state(0, 1), 1);
                Judged.due("waits for the CLASS", x.state(0, 0), first);
                Judged.due("which is", x.state(0, 4), first == 1 ? more + 2 : -1);
                Judged.due("enters it", x.step(0), 1 - first);
                Judged.due("the CLASS", x.thing(more + 2, 1), 3020);
                Judged.due("is entered by", x.thing(more + 2, 4), first);
            }
        }
    }

    /** "told by notify, it waits for it, and has it as before": whichever thread has told it */
    private static void toldByAnyThread() {
        String classes = "class W extends Thread { method void run() { getstatic Main.o; enter; getstatic Main.o; enter; getstatic Main.o; virtual void Object.wait(); L: goto L; } } "
            + "class N extends Thread { method void run() { getstatic Main.o; enter; getstatic Main.o; virtual void Object.notify(); M: goto M; } } ";
        classes = classes.replace("L: goto L;", "null; exit; null; exit; return;").replace("M: goto M;", "getstatic Main.o; exit; return;");
        for (int by = 1; by < 12; by++) {
            for (int w = 1; w < 12; w += 3) {
                if (w == by) {
                    continue;
                }
                StringBuilder starts = new StringBuilder();
                for (int t = 1; t < 12; t++) {
                    starts.append(t == w ? "new W; " : "new N; ").append("virtual void Thread.start(); ");
                }
                ThreadJudge x = Judged.loaded(Judged.main(classes, "new Object; putstatic Main.o; " + starts + "return;").replace("class Main {", "class Main { static field Object o;"));
                x.begin();
                for (int k = 0; k < 40 && x.step(0) == 1; k++) {
                    continue;
                }
                for (int k = 0; k < 6; k++) {
                    x.step(w);
                }
                Judged.due("sleeps", x.state(w, 0), 2);
                Judged.due("at", x.state(w, 4), 0);
                for (int k = 0; k < 4; k++) {
                    Judged.due("tells", x.step(by), 1);
                }
                Judged.due("waits for it, told by " + by, x.state(w, 0), 1);
                Judged.due("that", x.state(w, 4), 0);
                Judged.due("does nothing", x.step(w), 0);
                x.step(by);
                x.step(by);
                Judged.due("may go on", x.state(w, 0), 0);
                Judged.due("has it", x.step(w), 1);
                Judged.due("as before", x.thing(0, 3) * 100 + x.thing(0, 4), 200 + w);
            }
        }
    }

    private static final String[] PLACES = {"# putstatic P.a;", "# putstatic P.b;", "# putstatic P.c;", "getstatic P.x; # put P.f;", "getstatic P.x; # put P.g;", "getstatic P.y; # put P.f;", "getstatic P.y; # put P.g;",
        "getstatic P.r; push 0; # setelement;", "getstatic P.r; push 1; # setelement;", "getstatic P.r; push 2; # setelement;", "getstatic P.r; push 15; # setelement;", "getstatic P.s; push 0; # setelement;", "getstatic P.s; push 15; # setelement;"};

    /** Things, then the lines of main and of a thread, each of which writes a place. */
    private static String writes(int order, String main, String run) {
        String[] makes = {"push 16; array int; putstatic P.r; ", "new P; putstatic P.x; ", "push 16; array int; putstatic P.s; ", "new P; putstatic P.y; "};
        StringBuilder made = new StringBuilder();
        for (int k = 0; k < 4; k++) {
            made.append(makes[(k * (order == 2 ? 3 : 1) + order) % 4]);
        }
        return Judged.main("class P { static field int a; field int f; static field int b; field int g; static field int c; static field P x; static field P y; static field int[] r; static field int[] s; } class T extends Thread { method void run() { " + run + " return; } } ",
            made + "new T; virtual void Thread.start(); " + main + " return;");
    }

    /** "to one place (a field of a thing, an element of an array by its number, a static field ..)": each is a place of its own */
    private static void placesAreTheirOwn() {
        for (int order = 0; order < 4; order++) {
            for (int p = 0; p < PLACES.length; p++) {
                for (int q = 0; q < PLACES.length; q++) {
                    ThreadJudge x = Judged.loaded(writes(order, PLACES[p].replace("#", "push 7;"), PLACES[q].replace("#", "push 8;")));
                    x.begin();
                    for (int turn = 0; turn < 2; turn++) {
                        int t = (turn + p) % 2;
                        for (int k = 0; k < 40 && x.step(t == 0 || x.count(19) < 2 ? 0 : 1) == 1 && (t == 0 || x.state(1, 0) != 4); k++) {
                            continue;
                        }
                    }
                    x.run(100, 1);
                    Judged.due("clashes of " + PLACES[p] + " and " + PLACES[q], x.count(21), p == q ? 1 : 0);
                }
            }
        }
    }

    /** Nor does a place remember what was there in the run before. */
    private static void placesAreTheirOwnInEachRun() {
        for (int p = 0; p < PLACES.length; p++) {
            ThreadJudge x = Judged.loaded(writes(0, "push 1; pop;", PLACES[p].replace("#", "push 8;")));
            for (int run = 0; run < 4; run++) {
                x.begin();
                x.run(100, run);
                Judged.due("clashes of run " + run, x.count(21), 0);
                Judged.due("threads", x.count(19), 2);
            }
            x = Judged.loaded(writes(0, PLACES[p].replace("#", "push 7;"), PLACES[p].replace("#", "push 8;")));
            for (int run = 0; run < 4; run++) {
                x.begin();
                for (int k = 0; run % 2 == 1 && k < 12; k++) {
                    x.step(0);
                }
                Judged.due("none yet", x.count(21), 0);
                x.run(100, run);
                Judged.due("one", x.count(21), 1);
            }
        }
    }
}
