/** CLOCKS, DEADLOCK, FORESEEN: what happens before what, clashes, rings of threads: sentence by sentence. */
public final class ClocksTest {
    private static final String T = "class T extends Thread { method void run() { # return; } } class K { field int n; field int m; final field int f; volatile field int v; } ";
    private static int main;

    public static void main(String[] args) {
        within();
        neitherBefore();
        oneWrites();
        onePlace();
        finalAndVolatile();
        finalOfThings();
        volatilesAnew();
        pairsBesideOthers();
        entersBehindExit();
        locksToo();
        waitingToo();
        volatileReadBehindWrite();
        volatileWritesAreNot();
        behindStart();
        behindJoin();
        behindHook();
        behindAllThatEnded();
        behindTheBeginning();
        notInTheSameStep();
        oneThatExtendsIt();
        lastOfEachThread();
        lastReadingAndWriting();
        eachPairOnce();
        lesserAndGreater();
        orderOfComing();
        theFirstThousand();
        whatIsThrownIsNoAccess();
        deadlockOfTwo();
        deadlockOfThree();
        noRing();
        ringsAreCountedOnce();
        ringsStay();
        ringOfLocks();
        ringBehindWait();
        foreseen();
        foreseenWithout();
        Judged.end();
    }

    private static void steps(ThreadJudge x, int t, int n) {
        for (int k = 0; k < n; k++) {
            Judged.due("step " + k + " of thread " + t, x.step(t), 1);
        }
    }

    private static void all(ThreadJudge x, int t) {
        for (int k = 0; k < 400 && x.step(t) == 1; k++) {
            continue;
        }
    }

    /** A program whose threads run some lines, and whose main does others behind two steps that start one. */
    private static ThreadJudge of(String fields, String run, String lines) {
        ThreadJudge x = Judged.loaded(T.replace("#", run) + "class Main { static field int n; static field int m; static volatile field int v; static volatile field int w; static field K k; static field int[] r; static field T t; " + fields + " static method void main() { " + lines + " return; } }");
        main = x.method(x.count(5) - 1, 3);
        x.begin();
        return x;
    }

    private static final String START = "new T; virtual void Thread.start(); ";

    /** How many clashes there are, if main goes to its end first, then the thread. */
    private static void mainFirst(int due, String fields, String run, String lines) {
        ThreadJudge x = of(fields, run, lines);
        all(x, 0);
        all(x, 1);
        Judged.due("main first: " + run + " | " + lines, x.count(21), due);
    }

    /** How many there are, if main does some steps, the thread goes to its end, then main goes on. */
    private static void threadThen(int due, String fields, String run, String lines, int steps) {
        ThreadJudge x = of(fields, run, lines);
        steps(x, 0, steps);
        all(x, 1);
        all(x, 0);
        all(x, 1);
        Judged.due("thread behind " + steps + ": " + run + " | " + lines, x.count(21), due);
    }

    /** "What happens before: within a thread" */
    private static void within() {
        ThreadJudge x = of("", "", "push 1; putstatic Main.n; getstatic Main.n; pop; push 2; putstatic Main.n;");
        all(x, 0);
        Judged.due("one thread", x.count(21), 0);
        mainFirst(0, "", "push 1; putstatic Main.n; getstatic Main.n; pop;", START);
    }

    /** "Two accesses of threads that are not alike, to one place .., one of which writes, neither of which happens before the other one, are a CLASH of both their instructions" */
    private static void neitherBefore() {
        ThreadJudge x = of("", "getstatic Main.n; pop;", START + "push 1; putstatic Main.n;");
        all(x, 0);
        Judged.due("not yet", x.count(21), 0);
        steps(x, 1, 1);
        Judged.due("now", x.count(21), 1);
        Judged.due("lesser", x.clash(0, 0), 14);
        Judged.due("greater", x.clash(0, 1), main + 3);
    }

    /** "one of which writes" */
    private static void oneWrites() {
        String[] read = {"getstatic Main.n; pop;", "getstatic Main.k; get K.n; pop;", "getstatic Main.r; push 0; element; pop;"};
        String[] write = {"push 1; putstatic Main.n;", "getstatic Main.k; push 1; put K.n;", "getstatic Main.r; push 0; push 1; setelement;"};
        String head = "new K; putstatic Main.k; push 2; array int; putstatic Main.r; " + START;
        for (int k = 0; k < 3; k++) {
            mainFirst(0, "", read[k], head + read[k]);
            mainFirst(1, "", write[k], head + read[k]);
            mainFirst(1, "", read[k], head + write[k]);
            mainFirst(1, "", write[k], head + write[k]);
        }
    }

    /** "to one place (a field of a thing, an element of an array by its number, a static field" */
    private static void onePlace() {
        String head = "new K; putstatic Main.k; push 2; array int; putstatic Main.r; " + START;
        mainFirst(0, "", "push 1; putstatic Main.m;", head + "push 1; putstatic Main.n;");
        mainFirst(0, "", "getstatic Main.k; push 1; put K.m;", head + "getstatic Main.k; push 1; put K.n;");
        mainFirst(0, "", "new K; push 1; put K.n;", head + "new K; push 1; put K.n;");
        mainFirst(0, "", "getstatic Main.r; push 1; push 1; setelement;", head + "getstatic Main.r; push 0; push 1; setelement;");
        mainFirst(1, "", "getstatic Main.r; push 1; push 1; setelement;", head + "getstatic Main.r; push 1; push 1; setelement;");
        mainFirst(0, "", "push 2; array int; push 1; push 1; setelement;", head + "push 2; array int; push 1; push 1; setelement;");
        mainFirst(0, "", "getstatic Main.r; length; pop;", head + "getstatic Main.r; push 1; push 1; setelement;");
    }

    /** "neither final nor volatile" */
    private static void finalAndVolatile() {
        String head = "new K; putstatic Main.k; " + START;
        mainFirst(0, "", "push 1; putstatic Main.v;", head + "push 1; putstatic Main.v;");
        mainFirst(0, "", "getstatic Main.k; push 1; put K.v;", head + "getstatic Main.k; push 1; put K.v;");
        mainFirst(0, "static final field int f; static method void <clinit>() { new T; virtual void Thread.start(); push 1; putstatic Main.f; return; } ", "getstatic Main.f; pop;", "");
    }

    /** "neither final .." of a thing that is shared before its field is written; and of another run on the same object */
    private static void finalOfThings() {
        String init = "class F { final field int f; field int n; method void <init>() { load 0; putstatic F.s; load 0; push 1; put F.f; load 0; push 1; put F.n; return; } static volatile field F s; volatile field int v; } ";
        ThreadJudge x = Judged.loaded(init + "class T extends Thread { method void run() { getstatic F.s; get F.v; pop; getstatic F.s; get F.f; pop; getstatic F.s; get F.n; pop; return; } } " + Judged.main("", START + "new F; special void F.<init>(); return;"));
        for (int turn = 0; turn < 3; turn++) {
            x.begin();
            steps(x, 0, 2 + 1 + 1 + 2);
            all(x, 1);
            all(x, 0);
            Judged.due("n alone, run " + turn, x.count(21), 1);
            Judged.due("its writing", x.clash(0, 0), x.method(17, 3) + 7);
            x.begin();
            steps(x, 0, 2 + 1 + 1 + 2);
            all(x, 0);
            all(x, 1);
            Judged.due("written first, run " + turn, x.count(21), 1);
            x.begin();
            all(x, 0);
            steps(x, 1, 1);
            Judged.due("not yet", x.count(21), 0);
        }
    }

    /** What was written and read in another run of the same object is not before anything. */
    private static void volatilesAnew() {
        ThreadJudge x = Judged.loaded("class F { volatile field int v; field int n; static volatile field F s; static field int m; } class T extends Thread { method void run() { push 1; putstatic F.m; return; } } class U extends Thread { method void run() { getstatic F.s; get F.v; pop; getstatic F.m; pop; return; } } "
            + Judged.main("", "new F; putstatic F.s; new T; virtual void Thread.start(); new U; virtual void Thread.start(); getstatic F.s; push 2; put F.v; return;"));
        for (int turn = 0; turn < 4; turn++) {
            x.begin();
            steps(x, 0, 6);
            all(x, 1);
            all(x, 2);
            Judged.due("m, run " + turn, x.count(21), 1);
            all(x, 0);
        }
    }

    /** Pairs of instructions that stand far from each other, and of those beside them, are not taken for one another. */
    private static void pairsBesideOthers() {
        ThreadJudge x = Judged.loaded("class Main { static field int a; static field int b; static method void main() { " + START + "getstatic Main.a; getstatic Main.b; pop; pop; return; } } class T extends Thread { method void run() { push 1; putstatic Main.b; " + "push 1; pop; ".repeat(31) + "push 1; putstatic Main.a; return; } } ");
        x.begin();
        all(x, 0);
        all(x, 1);
        Judged.due("a with a, b with b", x.count(21), 2);
        Judged.due("b's came first", x.clash(0, 0) * 1000 + x.clash(0, 1), 17022);
        Judged.due("then a's", x.clash(1, 0) * 1000 + x.clash(1, 1), 16086);
    }

    /** "entering behind exiting .. of the same thing" */
    private static void entersBehindExit() {
        String a = "string \"a\"; enter; @ null; exit;".replace("null; exit", "string \"a\"; exit");
        String b = a.replace("\"a\"", "\"b\"");
        String put = "push 1; putstatic Main.n;";
        mainFirst(0, "", a.replace("@", put), START + a.replace("@", put));
        mainFirst(1, "", b.replace("@", put), START + a.replace("@", put));
        // what is behind the exit, or before the entering, is not between
        mainFirst(1, "", a.replace("@", put), START + a.replace("@", "") + put);
        mainFirst(1, "", put + a.replace("@", ""), START + a.replace("@", put));
        mainFirst(0, "", a.replace("@", "") + put, START + put + a.replace("@", ""));
        // by way of a third thing, and of what the thread itself entered before
        mainFirst(0, "", a.replace("@", "") + put, START + put + b.replace("@", a.replace("@", "")));
        // entering is not behind entering alone: nested exits of its own
        mainFirst(0, "", a.replace("@", put), START + a.replace("@", a.replace("@", "") + put));
    }

    /** The LOCK is entered and exited, too. */
    private static void locksToo() {
        String k = "static synchronized method void s() { push 1; putstatic Main.n; return; } static method void u() { push 1; putstatic Main.n; return; }";
        mainFirst(0, k, "call void Main.s();", START + "call void Main.s();");
        mainFirst(1, k, "call void Main.u();", START + "call void Main.s();");
        mainFirst(1, k, "call void Main.s();", START + "call void Main.u();");
        mainFirst(0, k, "call void Main.s(); push 1; putstatic Main.m;", START + "push 1; putstatic Main.m; call void Main.s();");
    }

    /** "(waiting, too)" */
    private static void waitingToo() {
        ThreadJudge x = of("", "string \"a\"; enter; getstatic Main.n; pop; string \"a\"; virtual void Object.notify(); push 1; putstatic Main.m; string \"a\"; exit;",
            START + "string \"a\"; enter; push 1; putstatic Main.n; string \"a\"; virtual void Object.wait(); getstatic Main.m; pop; string \"a\"; exit;");
        steps(x, 0, 2 + 2 + 2 + 2);
        Judged.due("sleeps", x.state(0, 0), 2);
        steps(x, 1, 4);
        Judged.due("entering behind waiting", x.count(21), 0);
        steps(x, 1, 6);
        steps(x, 0, 3);
        Judged.due("having it back is behind exiting", x.count(21), 0);
    }

    /** "reading of a volatile field behind each writing of it that was before" */
    private static void volatileReadBehindWrite() {
        String put = "push 1; putstatic Main.n; ";
        String get = "getstatic Main.n; pop; ";
        String write = "push 1; putstatic Main.v; ";
        String read = "getstatic Main.v; pop; ";
        mainFirst(0, "", read + get, START + put + write);
        mainFirst(1, "", read.replace("Main.v", "Main.w") + get, START + put + write);
        mainFirst(1, "", get + read, START + put + write);
        mainFirst(1, "", read + get, START + write + put);
        mainFirst(1, "", read + get, START + put + read);
        mainFirst(1, "", write + get, START + put + read);
        // a field of a thing
        String k = "getstatic Main.k; ";
        String head = "new K; putstatic Main.k; ";
        mainFirst(0, "", k + "get K.v; pop; " + get, head + START + put + k + "push 1; put K.v; ");
        mainFirst(1, "", "new K; get K.v; pop; " + get, head + START + put + k + "push 1; put K.v; ");
        // behind each writing, not the last one alone
        ThreadJudge x = of("", "getstatic Main.t; ifsome L; load 0; putstatic Main.t; push 1; putstatic Main.m; push 1; putstatic Main.v; return; L: getstatic Main.v; pop; getstatic Main.n; pop; getstatic Main.m; pop;", START + START + put + write);
        steps(x, 0, 4);
        Judged.due("threads", x.count(19), 3);
        all(x, 1);
        all(x, 0);
        x.step(2);
        int before = x.count(21);
        all(x, 2);
        Judged.due("neither n nor m clashes", x.count(21), before);
    }

    /** "(writings of it are not behind each other by that)" */
    private static void volatileWritesAreNot() {
        mainFirst(1, "", "push 2; putstatic Main.v; getstatic Main.n; pop;", START + "push 1; putstatic Main.n; push 1; putstatic Main.v;");
        mainFirst(0, "", "getstatic Main.v; pop; push 2; putstatic Main.v; getstatic Main.n; pop;", START + "push 1; putstatic Main.n; push 1; putstatic Main.v;");
    }

    /** "the thread behind start" */
    private static void behindStart() {
        mainFirst(0, "", "getstatic Main.n; pop;", "push 1; putstatic Main.n; " + START);
        mainFirst(1, "", "getstatic Main.n; pop;", START + "push 1; putstatic Main.n; ");
        mainFirst(1, "", "getstatic Main.n; pop;", "push 1; putstatic Main.m; " + START + "push 1; putstatic Main.n; ");
    }

    /** "join behind the end" */
    private static void behindJoin() {
        String start = "new T; store 1; load 1; virtual void Thread.start(); ";
        threadThen(0, "", "push 1; putstatic Main.n;", start + "load 1; virtual void Thread.join(); getstatic Main.n; pop;", 4);
        threadThen(1, "", "push 1; putstatic Main.n;", start + "getstatic Main.n; pop; load 1; virtual void Thread.join();", 4);
        threadThen(1, "", "push 1; putstatic Main.n;", start + "new T; virtual void Thread.join(); getstatic Main.n; pop;", 4);
        threadThen(1, "", "push 1; putstatic Main.n;", start + "getstatic Main.n; pop;", 4);
        // the end is not behind join
        threadThen(1, "", "push 1; putstatic Main.n;", start + "push 1; putstatic Main.n; load 1; virtual void Thread.join();", 4);
    }

    /** "the thread behind .. hook" */
    private static void behindHook() {
        mainFirst(0, "", "getstatic Main.n; pop;", "push 1; putstatic Main.n; new T; call void Runtime.hook(Thread); push 2; putstatic Main.n;");
    }

    /** "and what hooked begins behind all that ended" */
    private static void behindAllThatEnded() {
        ThreadJudge x = Judged.loaded("class T extends Thread { method void run() { push 1; putstatic Main.n; return; } } class H extends Thread { method void run() { push 2; putstatic Main.n; return; } } class Main { static field int n; static method void main() { new H; call void Runtime.hook(Thread); new H; call void Runtime.hook(Thread); new T; virtual void Thread.start(); return; } }");
        x.begin();
        all(x, 0);
        all(x, 1);
        Judged.due("two begin", x.count(19), 4);
        all(x, 2);
        Judged.due("behind T", x.count(21), 0);
        all(x, 3);
        Judged.due("not behind each other", x.count(21), 1);
        int h = x.method(18, 3) + 1;
        Judged.due("one instruction with itself", x.clash(0, 0), h);
        Judged.due("one instruction with itself", x.clash(0, 1), h);
    }

    /** "who finds a class begun (by an instruction that lets it, or one that extends it, begin) behind the end of its beginning" */
    private static void behindTheBeginning() {
        String c = "class C { static field int f; static field int g; static method void <clinit>() { push 1; putstatic Main.n; return; } static method void c() { return; } } class D extends C { } ";
        for (String use : new String[] {"getstatic C.f; pop; ", "push 1; putstatic C.g; ", "new C; pop; ", "call void C.c(); ", "new D; pop; ", "string \"C\"; call Class Class.named(String); pop; "}) {
            ThreadJudge x = Judged.loaded(c + T.replace("#", use + "getstatic Main.n; pop;") + "class Main { static field int n; static method void main() { " + START + "getstatic C.f; pop; return; } }");
            x.begin();
            all(x, 0);
            all(x, 1);
            Judged.due("found begun by " + use, x.count(21), 0);
        }
        for (String none : new String[] {"push 1; array C; pop; ", "null; cast C; pop; ", "lambda Runnable void C.c(); virtual void Runnable.run(); ", ""}) {
            ThreadJudge x = Judged.loaded(c + T.replace("#", none + "getstatic Main.n; pop;") + "class Main { static field int n; static method void main() { " + START + "getstatic C.f; pop; return; } }");
            x.begin();
            all(x, 0);
            all(x, 1);
            Judged.due("not found by " + none, x.count(21), 1);
        }
        // the end of its beginning also by what it lets go
        ThreadJudge x = Judged.loaded("class C { static field int f; static method void <clinit>() { push 1; putstatic Main.n; new Cast; throw; } } " + T.replace("#", "getstatic C.f; pop; getstatic Main.n; pop;") + "class Main { static field int n; static method void main() { " + START + "getstatic C.f; pop; return; } }");
        x.begin();
        all(x, 0);
        all(x, 1);
        Judged.due("ended by what it lets go", x.count(21), 0);
    }

    /** "but not behind what the instruction that let it begin does then, also in the same step" */
    private static void notInTheSameStep() {
        for (String clinit : new String[] {"", "static method void <clinit>() { return; } "}) {
            ThreadJudge x = Judged.loaded("class C { static field int f; " + clinit + "} " + T.replace("#", "getstatic C.f; pop;") + "class Main { static method void main() { " + START + "push 1; putstatic C.f; return; } }");
            x.begin();
            all(x, 0);
            all(x, 1);
            Judged.due("the writing itself clashes " + clinit, x.count(21), 1);
        }
        // what was before it does not, in either case
        for (String clinit : new String[] {"", "static method void <clinit>() { return; } "}) {
            ThreadJudge x = Judged.loaded("class C { static field int f; " + clinit + "} " + T.replace("#", "getstatic C.f; pop; getstatic Main.n; pop;") + "class Main { static field int n; static method void main() { " + START + "push 1; putstatic Main.n; getstatic C.f; pop; return; } }");
            x.begin();
            all(x, 0);
            all(x, 1);
            Judged.due("what was before " + clinit, x.count(21), 0);
        }
        // what is behind it does
        ThreadJudge x = Judged.loaded("class C { static field int f; } " + T.replace("#", "getstatic C.f; pop; getstatic Main.n; pop;") + "class Main { static field int n; static method void main() { " + START + "getstatic C.f; pop; push 1; putstatic Main.n; return; } }");
        x.begin();
        all(x, 0);
        all(x, 1);
        Judged.due("what is behind", x.count(21), 1);
    }

    /** "or one that extends it" */
    private static void oneThatExtendsIt() {
        String c = "class C { static field int f; static method void <clinit>() { push 1; putstatic Main.n; return; } } class D extends C { static field int g; } class E extends C { static field int h; } ";
        ThreadJudge x = Judged.loaded(c + T.replace("#", "getstatic E.h; pop; getstatic Main.n; pop;") + "class Main { static field int n; static method void main() { " + START + "getstatic D.g; pop; return; } }");
        x.begin();
        all(x, 0);
        all(x, 1);
        Judged.due("by E behind C's beginning by D", x.count(21), 0);
        x = Judged.loaded(c + T.replace("#", "getstatic C.f; pop; getstatic Main.n; pop;") + "class Main { static field int n; static method void main() { " + START + "getstatic D.g; pop; return; } }");
        x.begin();
        all(x, 0);
        all(x, 1);
        Judged.due("by C itself", x.count(21), 0);
    }

    /** "(each access is held against the last reading, and the last writing, of each other thread" */
    private static void lastOfEachThread() {
        ThreadJudge x = of("", "push 1; putstatic Main.n; push 2; putstatic Main.n; push 3; putstatic Main.n;", START + START + "getstatic Main.n; pop;");
        steps(x, 0, 4);
        all(x, 1);
        Judged.due("none yet", x.count(21), 0);
        steps(x, 0, 1);
        Judged.due("the last writing alone", x.count(21), 1);
        Judged.due("that", x.clash(0, 0), 19);
        steps(x, 2, 2);
        // 15 with 19 of thread 1, and with the reading of thread 0
        Judged.due("each other thread", x.count(21), 3);
        Judged.due("first", x.clash(1, 0) * 100 + x.clash(1, 1), 1500 + main + 4);
        Judged.due("second", x.clash(2, 0) * 100 + x.clash(2, 1), 1519);
    }

    /** "the last reading, and the last writing" */
    private static void lastReadingAndWriting() {
        ThreadJudge x = of("", "push 1; putstatic Main.n; getstatic Main.n; pop; getstatic Main.n; pop;", START + "push 1; putstatic Main.n;");
        steps(x, 0, 2);
        all(x, 1);
        steps(x, 0, 2);
        Judged.due("reading and writing", x.count(21), 2);
        int a = x.clash(0, 0);
        int b = x.clash(1, 0);
        Judged.due("the writing, and the last reading", Math.min(a, b) * 100 + Math.max(a, b), 1518);
        // a reading is held against writings alone
        x = of("", "push 1; putstatic Main.n; getstatic Main.n; pop;", START + "getstatic Main.n; pop;");
        steps(x, 0, 2);
        all(x, 1);
        steps(x, 0, 1);
        Judged.due("the writing alone", x.count(21), 1);
        Judged.due("that", x.clash(0, 0), 15);
        // a reading behind a writing does not hide it
        x = of("", "getstatic Main.n; pop;", START + "push 1; putstatic Main.n; getstatic Main.n; pop;");
        all(x, 0);
        all(x, 1);
        Judged.due("with the writing", x.clash(0, 1), main + 3);
    }

    /** "each pair of instructions once" */
    private static void eachPairOnce() {
        ThreadJudge x = of("", "L: push 1; putstatic Main.n; goto L;", START + "M: push 1; putstatic Main.n; goto M;");
        for (int k = 0; k < 20; k++) {
            x.step(0);
            x.step(0);
            x.step(0);
            x.step(1);
            x.step(1);
            x.step(1);
        }
        Judged.due("one pair", x.count(21), 1);
        Judged.due("no second", x.clash(1, 0), -1);
        Judged.due("begin anew", x.begin() ? x.count(21) : -1, 0);
        Judged.due("no clash", x.clash(0, 0), -1);
    }

    /** "0 the lesser, 1 the greater one" */
    private static void lesserAndGreater() {
        ThreadJudge x = of("", "push 1; putstatic Main.n;", START + "push 1; putstatic Main.n;");
        all(x, 0);
        all(x, 1);
        Judged.due("lesser", x.clash(0, 0), 15);
        Judged.due("greater", x.clash(0, 1), main + 3);
        x = of("", "push 1; putstatic Main.n;", START + "push 1; putstatic Main.n;");
        steps(x, 0, 2);
        all(x, 1);
        all(x, 0);
        Judged.due("lesser", x.clash(0, 0), 15);
        Judged.due("greater", x.clash(0, 1), main + 3);
        Judged.due("no what", x.clash(0, 2), -1);
        Judged.due("no what", x.clash(0, -1), -1);
        Judged.due("none such", x.clash(1, 0), -1);
        Judged.due("none such", x.clash(-1, 0), -1);
    }

    /** "The k-th CLASH, in the order of coming" */
    private static void orderOfComing() {
        ThreadJudge x = of("", "push 1; putstatic Main.m; push 1; putstatic Main.n;", START + "push 1; putstatic Main.n; push 1; putstatic Main.m;");
        all(x, 0);
        all(x, 1);
        Judged.due("two", x.count(21), 2);
        Judged.due("m's came first", x.clash(0, 0) * 100 + x.clash(0, 1), 1500 + main + 5);
        Judged.due("then n's", x.clash(1, 0) * 100 + x.clash(1, 1), 1700 + main + 3);
    }

    /** "the first 1,000 pairs are kept" .. "all pairs, those behind the first 1,000, which are not kept, too" */
    private static void theFirstThousand() {
        ThreadJudge x = of("", "L: " + "push 1; putstatic Main.n; ".repeat(50) + "goto L;", "push 11; store 1; M: " + START + "inc 1 -1; load 1; ifgt M;");
        for (int k = 0; k < 40 && x.count(21) < 1000; k++) {
            x.run(200, k);
        }
        int was = x.count(21);
        Judged.yes("a thousand pairs: " + was, was >= 1000 && was < 1275);
        int first = x.clash(0, 0) * 1000 + x.clash(0, 1);
        int last = x.clash(999, 0) * 1000 + x.clash(999, 1);
        Judged.yes("the thousandth is kept", last > 0);
        for (int k = 0; k < 40 && x.count(21) < 1100; k++) {
            x.run(500, k * 7 + 3);
        }
        Judged.yes("more came: " + x.count(21), x.count(21) >= 1100 && x.count(21) <= 1275);
        Judged.due("first", x.clash(0, 0) * 1000 + x.clash(0, 1), first);
        Judged.due("thousandth", x.clash(999, 0) * 1000 + x.clash(999, 1), last);
        Judged.due("none behind it is kept", x.clash(1000, 0), -1);
    }

    /** What throws accesses no place. */
    private static void whatIsThrownIsNoAccess() {
        String head = "push 2; array int; putstatic Main.r; push 1; array K; putstatic Main.q; " + START;
        String catch_ = "A: # B: return; H: pop; return; catch Throwable A B H;";
        mainFirst(0, "static field K[] q;", "getstatic Main.r; push 0; push 1; setelement; getstatic Main.r; push 1; push 1; setelement;", head + catch_.replace("#", "getstatic Main.r; push 2; push 1; setelement;"));
        mainFirst(0, "static field K[] q;", "getstatic Main.q; push 0; null; setelement;", head + catch_.replace("#", "getstatic Main.q; push 0; new Object; setelement;"));
        mainFirst(1, "static field K[] q;", "getstatic Main.q; push 0; null; setelement;", head + catch_.replace("#", "getstatic Main.q; push 0; new K; setelement;"));
    }

    // ---- deadlocks

    private static final String AB = "class T extends Thread { field int n; method void run() { load 0; get T.n; ifeq L; string \"b\"; enter; string \"c\"; enter; string \"c\"; exit; string \"b\"; exit; return; L: string \"@\"; enter; string \"a\"; enter; string \"a\"; exit; string \"@\"; exit; return; } } class Main { static method void main() { ";
    private static final String MAIN_AB = "string \"a\"; enter; string \"b\"; enter; string \"b\"; exit; string \"a\"; exit; return; } }";

    /** "A DEADLOCK is there, if threads in a ring each wait for a thing that the next one has entered." .. "22 deadlocks (rings) that were there behind a step and not before it" */
    private static void deadlockOfTwo() {
        ThreadJudge x = Judged.loaded(AB.replace("@", "b") + START + MAIN_AB);
        x.analyse(0, 300);
        x.begin();
        steps(x, 0, 2 + 3);
        steps(x, 1, 3 + 2);
        Judged.due("none", x.count(22), 0);
        Judged.due("main waits", x.state(0, 0), 1);
        Judged.due("not yet a ring", x.count(22), 0);
        steps(x, 1, 1);
        Judged.due("both wait", x.state(0, 0) * 10 + x.state(1, 0), 11);
        Judged.due("a ring", x.count(22), 1);
        Judged.due("nothing goes on", x.run(10, 1), 0);
        Judged.due("still one", x.count(22), 1);
        Judged.yes("foreseen", x.foreseen());
        x.begin();
        Judged.due("a new run", x.count(22), 0);
        all(x, 0);
        all(x, 1);
        Judged.due("one after the other: none", x.count(22), 0);
    }

    private static void deadlockOfThree() {
        ThreadJudge x = Judged.loaded(AB.replace("@", "c") + "new T; dup; push 1; put T.n; virtual void Thread.start(); " + START + MAIN_AB);
        x.analyse(0, 300);
        x.begin();
        steps(x, 0, 5 + 2 + 3);
        steps(x, 1, 3 + 3);
        Judged.due("0 waits for b", x.state(0, 0), 1);
        steps(x, 2, 3 + 2);
        Judged.due("1 waits for c", x.state(1, 0), 1);
        Judged.due("two of three", x.count(22), 0);
        steps(x, 2, 1);
        Judged.due("a ring of three is one", x.count(22), 1);
        Judged.yes("foreseen", x.foreseen());
    }

    private static void noRing() {
        // a row of waiting threads is no ring; nor is one that waits for itself to end
        ThreadJudge x = Judged.loaded(AB.replace("@", "b") + START + "string \"b\"; enter; " + "string \"a\"; enter; L: goto L; } }");
        x.begin();
        steps(x, 0, 2 + 4);
        steps(x, 1, 3 + 1);
        Judged.due("waits", x.state(1, 0), 1);
        Judged.due("no ring", x.count(22), 0);
        x = Judged.loaded(Judged.main("class T extends Thread { method void run() { load 0; virtual void Thread.join(); return; } } ", START + START + "return;"));
        x.begin();
        x.run(50, 1);
        Judged.due("joins itself", x.state(1, 0), 3);
        Judged.due("no thing is waited for", x.count(22), 0);
    }

    private static void ringsAreCountedOnce() {
        // two rings, and one that waits for what a ring has
        String t = "class T extends Thread { field int n; method void run() { load 0; get T.n; ifeq L; string \"b\"; enter; string \"a\"; enter; string \"a\"; exit; string \"b\"; exit; return; L: load 0; get T.n; pop; string \"a\"; enter; string \"b\"; enter; string \"b\"; exit; string \"a\"; exit; return; } } "
            + "class U extends Thread { field int n; method void run() { load 0; get U.n; ifeq L; string \"d\"; enter; string \"c\"; enter; string \"c\"; exit; string \"d\"; exit; return; L: load 0; get U.n; pop; string \"c\"; enter; string \"d\"; enter; string \"d\"; exit; string \"c\"; exit; return; } } ";
        ThreadJudge x = Judged.loaded(Judged.main(t, START + "new T; dup; push 1; put T.n; virtual void Thread.start(); new U; virtual void Thread.start(); new U; dup; push 1; put U.n; virtual void Thread.start(); string \"a\"; enter; string \"a\"; exit; return;"));
        x.begin();
        steps(x, 0, 2 + 5 + 2 + 5);
        for (int u = 1; u < 5; u++) {
            boolean one = u == 2 || u == 4;
            steps(x, u, one ? 5 : 8);
        }
        steps(x, 0, 1);
        Judged.due("none", x.count(22), 0);
        steps(x, 1, 1);
        Judged.due("not yet", x.count(22), 0);
        steps(x, 2, 1);
        Judged.due("one", x.count(22), 1);
        steps(x, 3, 1);
        steps(x, 4, 1);
        Judged.due("two", x.count(22), 2);
        Judged.due("main waits for the first's", x.state(0, 0), 1);
        Judged.due("nothing goes on", x.run(10, 1), 0);
        Judged.due("two", x.count(22), 2);
    }

    /** Rings of threads that are not beside each other, while others go on. */
    private static void ringsStay() {
        String t = "class T extends Thread { field Object a; field Object b; method void run() { load 0; get T.a; enter; load 0; get T.b; enter; null; exit; null; exit; return; } } class U extends Thread { method void run() { L: goto L; } } ";
        String make = "new T; store 1; load 1; string \"@\"; put T.a; load 1; string \"#\"; put T.b; load 1; virtual void Thread.start(); ";
        String u = "new U; virtual void Thread.start(); ";
        // threads 1 and 3, 4 and 6; 2 and 5 go on
        ThreadJudge x = Judged.loaded(Judged.main(t, make.replace("@", "a").replace("#", "b") + u + make.replace("@", "b").replace("#", "a") + make.replace("@", "c").replace("#", "d") + u + make.replace("@", "d").replace("#", "c") + "L: goto L;"));
        x.begin();
        steps(x, 0, 10 * 4 + 2 * 2);
        for (int k : new int[] {1, 3, 4, 6}) {
            steps(x, k, 3);
        }
        int[] order = {1, 3, 4, 6};
        int[] due = {0, 1, 1, 2};
        for (int k = 0; k < 4; k++) {
            steps(x, order[k], 2);
            for (int more = 0; more < 5; more++) {
                Judged.due("rings behind thread " + order[k], x.count(22), due[k]);
                steps(x, more % 2 == 0 ? 2 : 5, 1);
                steps(x, 0, 1);
            }
        }
        Judged.due("no more", x.count(22), 2);
        // main and thread 2
        x = Judged.loaded(Judged.main(t, u + make.replace("@", "a").replace("#", "b") + "string \"b\"; enter; string \"a\"; enter; null; exit; null; exit; return;"));
        x.begin();
        steps(x, 0, 2 + 10 + 3);
        steps(x, 2, 5);
        for (int more = 0; more < 5; more++) {
            Judged.due("a ring of 0 and 2", x.count(22), 1);
            steps(x, 1, 1);
        }
    }

    private static void ringOfLocks() {
        ThreadJudge x = Judged.loaded("class K { static field K a; static field K b; synchronized method void m(K) { load 1; virtual void K.n(); return; } synchronized method void n() { return; } } class T extends Thread { method void run() { getstatic K.b; getstatic K.a; virtual void K.m(K); return; } } "
            + "class Main { static method void main() { new K; putstatic K.a; new K; putstatic K.b; " + START + "getstatic K.a; getstatic K.b; virtual void K.m(K); return; } }");
        for (int policy = 0; policy < 4; policy++) {
            x.analyse(policy, 300);
            x.begin();
            steps(x, 0, 4 + 2 + 3 + 1);
            steps(x, 1, 3);
            Judged.due("not yet", x.count(22), 0);
            steps(x, 1, 1);
            Judged.due("by calls of 'synchronized' methods", x.count(22), 1);
            Judged.yes("foreseen", x.foreseen());
        }
    }

    private static void ringBehindWait() {
        ThreadJudge x = Judged.loaded("class T extends Thread { method void run() { string \"a\"; enter; string \"b\"; enter; string \"b\"; virtual void Object.wait(); string \"b\"; exit; string \"a\"; exit; return; } } "
            + "class Main { static method void main() { " + START + "string \"b\"; enter; string \"b\"; virtual void Object.notify(); string \"a\"; enter; string \"a\"; exit; string \"b\"; exit; return; } }");
        for (int policy = 0; policy < 4; policy++) {
            x.analyse(policy, 300);
            x.begin();
            steps(x, 0, 2);
            steps(x, 1, 6);
            steps(x, 0, 4);
            Judged.due("told, but it waits", x.state(1, 0), 1);
            Judged.due("not yet", x.count(22), 0);
            steps(x, 0, 1);
            Judged.due("a ring", x.count(22), 1);
            Judged.yes("foreseen", x.foreseen());
        }
    }

    // ---- foreseen

    /** "FORESEEN is all that a run did, if analyse() was done since the program is at hand, nothing is UNRESOLVED" */
    private static void foreseen() {
        String all = "interface F { abstract method Object f(Object); } class K implements F { field Object o; static field K s; static method void <clinit>() { new K; putstatic K.s; return; } method Object f(Object) { load 0; load 1; put K.o; load 0; get K.o; give; } static method Object l(Object, Object) { load 0; give; } } "
            + "class T extends Thread { method void run() { getstatic K.s; string \"t\"; virtual Object F.f(Object); pop; new Cast; throw; } } ";
        ThreadJudge x = Judged.loaded(Judged.main(all, START + "getstatic K.s; string \"m\"; virtual Object F.f(Object); pop; string \"h\"; lambda F Object K.l(Object, Object); null; virtual Object F.f(Object); pop; string \"K\"; call Class Class.named(String); virtual Object Class.newInstance(); cast F; push 2; array Object; virtual Object F.f(Object); pop; A: push 1; push 0; div; pop; B: return; H: pop; return; catch Throwable A B H;"));
        for (int policy = 0; policy < 4; policy++) {
            for (int granted : new int[] {1, 300}) {
                x.analyse(policy, granted);
                for (int draw = 0; draw < 8; draw++) {
                    x.begin();
                    x.run(200, draw * 77 + policy);
                    Judged.yes("foreseen by " + policy + ", " + granted + ", " + draw, x.foreseen());
                }
            }
        }
    }

    /** "True also: no run, nothing analysed, something UNRESOLVED." */
    private static void foreseenWithout() {
        Judged.yes("new", new ThreadJudge().foreseen());
        ThreadJudge x = Judged.loaded(Judged.main("excluded class E { static method void e() { return; } } ", "call void E.e(); new E; pop; return;"));
        Judged.yes("no run", x.foreseen());
        x.begin();
        x.run(50, 1);
        Judged.yes("nothing analysed", x.foreseen());
        x.analyse(0, 300);
        Judged.due("unresolved", x.count(15), 1);
        Judged.yes("no run", x.foreseen());
        x.begin();
        x.run(50, 1);
        Judged.yes("something unresolved", x.foreseen());
    }
}
