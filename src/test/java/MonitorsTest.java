/** MONITORS: who is handed what is held, what is told of one instruction behind another one, accesses of elements, and knots by LOCKS of calls. */
public final class MonitorsTest {
    private MonitorsTest() {
    }

    public static void main(String[] args) {
        classesThatBeginMeanwhile();
        askedOneBehindAnother();
        elementsAreReadOrWritten();
        knotsOfStaticLocks();
        callsWantTheirLocksAlone();
        heldByManyObjects();
        wantedByManyObjects();
        wantedByTheNativeWait();
        Judged.end();
    }

    private static ThreadJudge of(int policy, String text) {
        ThreadJudge x = Judged.loaded(text);
        x.analyse(policy, 300);
        return x;
    }

    /** "and what MAY BE HELD at any instruction that calls it, or lets it begin": only of what it calls or lets begin */
    private static void classesThatBeginMeanwhile() {
        String k = "class A { static field int f; static method void <clinit>() { return; } static method void s() { return; } } class B { static field int f; static method void <clinit>() { return; } static method void s() { return; } } ";
        // A.<clinit> 14, A.s 15, B.<clinit> 16, B.s 17
        String[] lines = {"getstatic A.f; pop;", "call void A.s();", "new A; pop;", "push 1; putstatic A.f;"};
        for (String line : lines) {
            for (int policy = 0; policy < 2; policy++) {
                String other = line.replace("A.", "B.").replace("new A", "new B");
                ThreadJudge x = of(policy, Judged.main(k, "string \"a\"; enter; " + line + " string \"b\"; enter; " + other + " null; exit; null; exit; return;"));
                Judged.due("A begins by " + line, x.held(14, false, -1), 1);
                Judged.due("B begins by " + other, x.held(16, false, -1), 2);
                Judged.due("nothing surely", x.held(14, true, -1) + x.held(16, true, -1), 0);
                x = of(policy, Judged.main(k, "string \"a\"; enter; " + line + " null; exit; " + other + " return;"));
                Judged.due("A begins by " + line, x.held(14, false, -1), 1);
                Judged.due("B begins without", x.held(16, false, -1), 0);
                x = of(policy, Judged.main(k, line + " string \"a\"; enter; " + other + " null; exit; return;"));
                Judged.due("A begins without", x.held(14, false, -1), 0);
                Judged.due("B begins by " + other, x.held(16, false, -1), 1);
                boolean calls = line.startsWith("call");
                Judged.due("A.s", x.held(15, false, -1), 0);
                Judged.due("B.s", x.held(17, false, -1), calls ? 1 : 0);
                Judged.due("B.s surely", x.held(17, true, -1), calls ? 1 : 0);
            }
        }
    }

    /** "or calls the native wait of p": of those receivers from which the native one is selected, not of those that have a wait() of their own */
    private static void wantedByTheNativeWait() {
        String classes = "class A { method void wait() { return; } } interface W { abstract method void wait(); } class X { static field Object x; static field Object s; static method void none() { return; } "
            + "static method void one() { getstatic X.x; enter; getstatic X.s; @ null; exit; return; } "
            + "static method void two() { getstatic X.s; enter; getstatic X.x; enter; null; exit; null; exit; return; } } ";
        String[] makes = {"new Object;", "new A;", "lambda W void X.none();"};
        String[] calls = {"virtual void Object.wait();", "call void X.t(Object);"};
        for (int k = 1; k < 8; k++) {
            StringBuilder sets = new StringBuilder("new Object; putstatic X.x; ");
            for (int n = 0; n < 3; n++) {
                sets.append((k >> n & 1) != 0 ? makes[n] + " putstatic X.s; " : "");
            }
            for (String call : calls) {
                String text = Judged.main(classes.replace("@", call).replace("void none()", "void t(Object) { load 0; virtual void Object.wait(); return; } static method void none()"),
                    sets + "new Thread; virtual void Thread.start(); call void X.one(); call void X.two(); return;");
                boolean here = call.equals(calls[0]);
                ThreadJudge x = of(0, text);
                // X.x 2's object is the first that main makes; those of X.s follow
                boolean some = (k & 1) != 0;
                Judged.due("knots of " + k + " by " + call, x.count(13), some ? 2 : 0);
                if (some) {
                    int wait = x.method(x.classOf(21, 4) + (here ? 2 : 0), 3);
                    while (x.instruction(wait, 0) != 49 || x.instruction(wait, 2) != 1) {
                        wait++;
                    }
                    Judged.due("where it waits", x.knot(0, 0), wait);
                    int one = x.field(0, 1, 0);
                    int first = x.field(0, 2, 0);
                    Judged.due("held", x.knot(0, 1), one);
                    Judged.due("the Object is wanted", x.knot(0, 2), first);
                    Judged.due("the other way round", x.knot(1, 1) * 1000 + x.knot(1, 2), first * 1000 + one);
                    Judged.due("no more", x.knot(2, 0), -1);
                }
            }
        }
    }

    /** What is told of one instruction does not depend on what was asked before. */
    private static void askedOneBehindAnother() {
        String text = Judged.main("class W { static method void w() { return; } static method void never() { return; } } ", "string \"a\"; enter; string \"b\"; enter; string \"c\"; enter; null; exit; null; exit; null; exit; call void W.w(); return;");
        // w 14, never 15, main 16 ..: 18 a, 20 a b, 22 a b c, 24 a b, 26 a, 28 none
        int[] at = {16, 18, 20, 22, 24, 26, 28, 14, 15};
        int[] due = {0, 1, 2, 3, 2, 1, 0, 0, 0};
        for (int p = 0; p < at.length; p++) {
            ThreadJudge x = of(0, text);
            for (int q = 0; q < at.length; q++) {
                for (int how = 0; how < 4; how++) {
                    Judged.due("first", x.held(at[p], how % 2 == 0, -1), due[p]);
                    Judged.due("of " + at[q] + " behind " + at[p], x.held(at[q], how < 2, -1), due[q]);
                    Judged.due("the string", x.held(at[q], how < 2, 0), due[q] > 0 ? 0 : -1);
                    Judged.due("no more", x.held(at[q], how < 2, due[q]), -1);
                }
            }
        }
    }

    /** "39, 41, 45 WRITE." of elements: two that read do not race, two that write do */
    private static void elementsAreReadOrWritten() {
        String[] arrays = {"int", "Object"};
        for (String array : arrays) {
            String v = array.equals("int") ? "push 1;" : "null;";
            String read = "getstatic Main.r; push 0; element; pop; ";
            String write = "getstatic Main.r; push 0; " + v + " setelement; ";
            String text = "class T extends Thread { method void run() { # return; } } class Main { static volatile field " + array + "[] r; static method void main() { push 2; array " + array + "; putstatic Main.r; new T; virtual void Thread.start(); @ return; } }";
            String[] all = {read, write, "getstatic Main.r; length; pop; "};
            for (int a = 0; a < 3; a++) {
                for (int b = 0; b < 3; b++) {
                    ThreadJudge x = of(0, text.replace("#", all[a]).replace("@", all[b]));
                    int due = a < 2 && b < 2 && a + b > 0 ? 1 : 0;
                    Judged.due("races of " + all[a] + "and " + all[b], x.count(12), due);
                    if (due > 0) {
                        Judged.due("the run's", x.race(0, 0), 16 + a);
                        Judged.due("elements", x.race(0, 2), -1);
                    }
                    // threads that are many: with itself
                    x = of(0, text.replace("#", all[a]).replace("virtual void Thread.start(); @", "virtual void Thread.start(); new T; virtual void Thread.start();"));
                    Judged.due("with itself " + all[a], x.count(12), a == 1 ? 1 : 0);
                }
            }
        }
    }

    /** "or calls an instance with p in its LOCK": of a static one, called with nothing on the stack */
    private static void knotsOfStaticLocks() {
        String k = "class A { static synchronized method void a() { call void B.c(); return; } static synchronized method void c() { return; } } class B { static synchronized method void b() { call void A.c(); return; } static synchronized method void c() { return; } } ";
        // A.a 14, 15; A.c 16; B.b 17, 18; B.c 19
        String[] calls = {"call void A.a();", "call void B.b();", "call void A.a(); call void B.b();"};
        int[] due = {0, 0, 2};
        for (int n = 0; n < calls.length; n++) {
            ThreadJudge x = of(0, Judged.main(k, "new Thread; virtual void Thread.start(); " + calls[n] + " return;"));
            Judged.due("knots of " + calls[n], x.count(13), due[n]);
            if (due[n] > 0) {
                Judged.due("first", x.knot(0, 0), 14);
                Judged.due("A's CLASS is held", x.object(x.knot(0, 1), 0), 3019);
                Judged.due("B's is wanted", x.object(x.knot(0, 2), 0), 3020);
                Judged.due("second", x.knot(1, 0), 17);
                Judged.due("B's is held", x.object(x.knot(1, 1), 0), 3020);
                Judged.due("A's is wanted", x.object(x.knot(1, 2), 0), 3019);
            }
        }
        // one thread alone
        Judged.due("without a second thread", of(0, Judged.main(k, "call void A.a(); call void B.b(); return;")).count(13), 0);
        // by lambdas, and by 50
        String l = "class A { static synchronized method void a() { lambda Runnable void B.c(); virtual void Runnable.run(); return; } static synchronized method void c() { return; } } class B { static synchronized method void b() { lambda Runnable void A.c(); virtual void Runnable.run(); return; } static synchronized method void c() { return; } } ";
        Judged.due("by lambdas", of(0, Judged.main(l, "new Thread; virtual void Thread.start(); call void A.a(); call void B.b(); return;")).count(13), 2);
        String p = "class P { synchronized method void p() { return; } } class Q extends P { method void q() { load 0; special void P.p(); return; } } ";
        ThreadJudge x = of(0, Judged.main(p, "new Thread; virtual void Thread.start(); new Q; store 1; load 1; enter; string \"s\"; enter; load 1; virtual void Q.q(); null; exit; null; exit; load 1; virtual void P.p(); string \"s\"; enter; load 1; enter; null; exit; null; exit; return;"));
        Judged.due("by 50: s is held, Q is wanted, and the other way", x.count(13), 3);
    }

    /** "or calls an instance with p in its LOCK": what it does not call it does not want */
    private static void callsWantTheirLocksAlone() {
        String k = "class K { static field K k; static method void plain() { return; } synchronized method void m() { string \"a\"; enter; null; exit; return; } } ";
        String head = "new Thread; virtual void Thread.start(); new K; putstatic K.k; getstatic K.k; virtual void K.m(); string \"a\"; enter; ";
        Judged.due("a call of what has no LOCK", of(0, Judged.main(k, head + "call void K.plain(); push 1; call void Out.print(int); new K; virtual void Object.notify(); null; exit; return;")).count(13), 0);
        ThreadJudge x = of(0, Judged.main(k, head + "getstatic K.k; virtual void K.m(); null; exit; return;"));
        Judged.due("a call of what has it", x.count(13), 2);
    }

    /** A text in which lines stand behind so many objects that were found before: methods that make them are called ahead. */
    private static String behind(int n, String lines) {
        StringBuilder all = new StringBuilder();
        StringBuilder calls = new StringBuilder();
        for (int k = 0; k < n; k += 50) {
            all.append("static method void f").append(k).append("() { ").append("new Object; pop; ".repeat(Math.min(50, n - k))).append("return; } ");
            calls.append("call void G.f").append(k).append("(); ");
        }
        return Judged.main("class W { static method void w() { return; } static method void v() { call void W.w(); return; } } class G { " + all + "static method void go() { " + lines + " return; } }", calls + "call void G.go(); return;");
    }

    /** "SURELY HELD", "MAY BE HELD" of objects behind many others */
    private static void heldByManyObjects() {
        for (int n = 0; n < 114; n += n == 0 ? 50 : 3) {
            // a and b are made behind n others; w is called with a and b, then with b
            String lines = "new Object; store 1; new Object; store 2; load 1; enter; load 2; enter; call void W.w(); null; exit; null; exit; @";
            ThreadJudge x = of(0, behind(n, lines.replace("@", "load 2; enter; call void W.v(); null; exit;")));
            int go = x.method(x.count(5) - 2, 3);
            Judged.due("maybe, behind " + n, x.held(14, false, -1), 2);
            Judged.due("surely, behind " + n, x.held(14, true, -1), 1);
            Judged.due("b, behind " + n, x.object(x.held(14, true, 0), 0), go + 2);
            Judged.due("v, behind " + n, x.held(15, true, -1), 1);
            x = of(0, behind(n, lines.replace("@", "")));
            Judged.due("both, behind " + n, x.held(14, true, -1), 2);
            Judged.due("a, behind " + n, x.object(x.held(14, true, 0), 0), go);
            x = of(0, behind(n, lines.replace("@", "call void W.v();")));
            Judged.due("none, behind " + n, x.held(14, true, -1), 0);
            Judged.due("maybe both, behind " + n, x.held(14, false, -1), 2);
            x = of(0, behind(n, lines.replace("@", "push 1; ifeq L; load 1; goto M; L: load 2; M: enter; call void W.v(); null; exit;")));
            Judged.due("one of two, behind " + n, x.held(14, true, -1), 0);
            x = of(1, behind(n, lines.replace("@", "load 1; enter; call void W.v(); null; exit;")));
            Judged.due("by instances, behind " + n, x.held(14, true, -1), 1);
            Judged.due("by instances a, behind " + n, x.object(x.held(14, true, 0), 0), go);
        }
    }

    /** Knots of objects behind many others. */
    private static void wantedByManyObjects() {
        for (int n = 0; n < 114; n += n == 0 ? 50 : 3) {
            String lines = "new Thread; virtual void Thread.start(); new Object; store 1; new Object; store 2; load 1; enter; load 2; enter; null; exit; null; exit; @";
            Judged.due("one order, behind " + n, of(0, behind(n, lines.replace("@", ""))).count(13), 0);
            ThreadJudge x = of(0, behind(n, lines.replace("@", "load 2; enter; load 1; enter; null; exit; null; exit;")));
            int go = x.method(x.count(5) - 2, 3);
            Judged.due("both orders, behind " + n, x.count(13), 2);
            Judged.due("held", x.object(x.knot(0, 1), 0), go + 2);
            Judged.due("wanted", x.object(x.knot(0, 2), 0), go + 4);
            // and races
            x = of(0, behind(n, "new Thread; virtual void Thread.start(); push 3; array int; store 1; load 1; putstatic G.r; load 1; push 0; push 1; setelement; load 1; enter; load 1; push 0; push 1; setelement; null; exit;").replace("class G {", "class T extends Thread { method void run() { getstatic G.r; store 1; load 1; push 0; element; pop; load 1; enter; load 1; push 0; element; pop; null; exit; return; } } class G { static volatile field int[] r;").replace("new Thread;", "new T;"));
            Judged.due("races, behind " + n, x.count(12), 3);
        }
    }
}
