/** "the least ones with which all that is said holds": also where something comes late, by ways that lead back, or in another order than that of the text. */
public final class LateTest {
    public static void main(String[] args) {
        kindsByWaysBack();
        kindsByCatchesBack();
        objectsByWaysBack();
        objectsByCatchesBack();
        objectsIntoCalls();
        objectsIntoLambdas();
        givenLate();
        startedLate();
        letGoLate();
        heldLate();
        mayBeHeldLate();
        runLate();
        escapesLate();
        waysBackInMain();
        chainsOfKnots();
        Judged.end();
    }

    private static ThreadJudge of(String text) {
        return of(0, text);
    }

    private static ThreadJudge of(int policy, String text) {
        ThreadJudge x = Judged.loaded(text);
        x.analyse(policy, 300);
        return x;
    }

    /** The sites of what a place may hold, each with a blank behind it. */
    private static String at(ThreadJudge x, int i, int place) {
        StringBuilder all = new StringBuilder();
        for (int k = 0; k < x.holds(i, place, -1); k++) {
            all.append(x.object(x.holds(i, place, k), 0)).append(' ');
        }
        return all.toString();
    }

    private static void same(String what, String got, String want) {
        Judged.yes(what + ": " + got + ", due is " + want, got.equals(want));
    }

    /** A row of locals, each of which takes by each round what the one before it had. */
    private static String rounds(int n) {
        StringBuilder all = new StringBuilder();
        for (int k = n; k > 1; k--) {
            all.append("load ").append(k - 1).append("; store ").append(k).append("; push 1; pop; ");
        }
        return all.toString();
    }

    private static String nulls(int n) {
        StringBuilder all = new StringBuilder();
        for (int k = 1; k <= n; k++) {
            all.append("null; store ").append(k).append("; ");
        }
        return all.toString();
    }

    private static void kindsByWaysBack() {
        for (int n = 2; n < 10; n++) {
            ThreadJudge x = Judged.loaded(Judged.main("class A { } ", nulls(n) + "L: " + rounds(n) + "new A; store 1; push 1; ifeq L; push 2; pop; return;"));
            int last = x.count(6) - 1;
            for (int k = 1; k <= n; k++) {
                Judged.due("local " + k + " of " + n + " is A", x.kind(last, k, 19), 1);
                Judged.due("local " + k + " of " + n + " is NULL", x.kind(last, k, -3), k > 1 ? 1 : 0);
            }
            Judged.due("the next one stays NOTHING", x.kind(last, 0, -4), 1);
        }
        // an array of classes comes late, too
        ThreadJudge x = Judged.loaded(Judged.main("", nulls(4) + "L: " + rounds(4) + "push 1; array Object; store 1; push 1; ifeq L; load 4; return;"));
        Judged.due("an array", x.kind(x.count(6) - 1, 10, -5), 1);
        // a fault that only a late kind is
        Judged.fault(23, Judged.main("", "push 0; store 1; push 0; store 2; push 0; store 3; L: load 3; @neg; pop; load 2; store 3; load 1; store 2; null; store 1; push 1; ifeq L; return;"));
    }

    private static void kindsByCatchesBack() {
        // the handler stands ahead of what it catches
        ThreadJudge x = Judged.loaded(Judged.main("class A { } class B extends Throwable { } ", nulls(4) + "goto S; H: " + rounds(4).replace("push 1; pop; ", "") + "store 5; load 5; store 6; S: A: new A; store 1; push 1; pop; B: return; catch B A B H; catch State A B H;"
            .replace("B: return;", "B: push 1; pop; return;")));
        int last = x.count(6) - 1;
        for (int k = 2; k < 5; k++) {
            Judged.due("local " + k, x.kind(last, k, 19), 1);
        }
        Judged.due("what was caught", x.kind(last, 6, 20) * 10 + x.kind(last, 6, 13), 11);
        Judged.due("or nothing was", x.kind(last, 6, -4), 1);
    }

    private static void objectsByWaysBack() {
        for (int n = 2; n < 10; n++) {
            ThreadJudge x = of(Judged.main("class A { } ", nulls(n) + "L: " + rounds(n) + "new A; store 1; push 1; ifeq L; push 2; pop; return;"));
            int last = x.count(6) - 1;
            for (int k = 1; k <= n; k++) {
                same("local " + k + " of " + n, at(x, last, k), last - 6 + " ");
            }
        }
        // two rounds, one in the other
        ThreadJudge x = of(Judged.main("class A { } class B { } ", nulls(6) + "L: " + rounds(3) + "M: load 5; store 6; load 4; store 5; load 3; store 4; push 1; ifeq M; new A; store 1; push 1; ifeq L; return;"));
        int last = x.count(6) - 1;
        same("through both", at(x, last, 6), last - 4 + " ");
    }

    private static void objectsByCatchesBack() {
        ThreadJudge x = of(Judged.main("class A { } class T { static method void t() { push 1; ifeq L; new Cast; throw; L: return; } } ", nulls(4) + "goto S; H: store 5; load 5; store 6; " + rounds(4) + "S: A: new A; store 1; call void T.t(); B: push 1; pop; return; catch Cast A B H;"));
        // t stands from 14 to 18, main from 19 on
        int last = x.count(6) - 1;
        for (int k = 2; k < 5; k++) {
            same("local " + k, at(x, last, k), last - 5 + " ");
        }
        same("what was caught", at(x, last, 6), "16 ");
        // local 0 goes to a catch, too; and what comes by a round that ends behind it
        x = of("class A { method void m(A) { L: A: load 1; pop; B: new A; store 1; load 0; store 2; push 1; ifeq L; return; H: pop; load 1; pop; load 0; return; catch NullPointer A B H; } } "
            .replace("load 1; pop; B:", "load 1; get A.a; pop; B:").replace("class A {", "class A { field A a;") + Judged.main("", "new A; new A; virtual void A.m(A); return;"));
        // m: 14 load 1, 15 get, 16 pop, 17 new A .. 23 return, 24 pop, 25 load 1, 26 pop, 27 load 0, 28 return; main from 29
        same("the receiver", at(x, 24, 0), "29 ");
        same("the receiver, behind", at(x, 28, 10), "29 ");
        same("both A's", at(x, 24, 1), "17 30 ");
        same("both A's, behind", at(x, 26, 10), "17 30 ");
        same("both A's, at the end", at(x, 28, 1), "17 30 ");
    }

    private static void objectsIntoCalls() {
        // what is called again with more: all of it comes to where that is used, and back
        ThreadJudge x = of("class A { } class K { static method Object m(Object) { load 0; store 1; load 1; give; } } class Main { static field Object o; static method void main() { L: getstatic Main.o; call Object K.m(Object); store 1; load 1; pop; new A; putstatic Main.o; push 1; ifeq L; return; } }");
        // m 14 .. 17, main 18 ..
        same("in m", at(x, 17, 10), "23 ");
        same("given", at(x, 22, 10), "23 ");
        // MAIN calls itself: it is one instance
        x = of(Judged.main("", "push 1; ifeq L; call void Main.main(); L: return;"));
        Judged.due("one instance", x.count(8), 1);
        Judged.due("way to MAIN itself", x.way(17, -1), 0);
        Judged.due("calls itself", x.calls(16, false, 0), 17);
        // a method that calls itself is one call away
        x = of(Judged.main("class K { static method void k() { push 1; ifeq L; call void K.k(); L: return; } } ", "call void K.k(); return;"));
        Judged.due("way to k", x.way(17, -1), 1);
        Judged.due("by main's first", x.way(17, 0), 18);
    }

    private static void objectsIntoLambdas() {
        // a lambda is made ahead of what it will have
        ThreadJudge x = of("interface F { abstract method void f(); } class K { static method void k(Object, Object) { push 1; pop; load 0; pop; load 1; pop; return; } } "
            + Judged.main("", "null; store 1; new Thread; store 2; L: load 1; load 2; lambda F void K.k(Object, Object); virtual void F.f(); new Object; store 1; push 1; ifeq L; return;"));
        // k 14 .. 20, main 21 .. : new Thread 23, lambda 27, new Object 29
        int lambda = 0;
        while (x.object(lambda, 0) != 27) {
            lambda++;
        }
        same("has", x.field(lambda, -2, -1) + " " + x.object(x.field(lambda, -2, 0), 0), "1 29");
        same("has second", x.field(lambda, -3, -1) + " " + x.object(x.field(lambda, -3, 0), 0), "1 23");
        same("in k", at(x, 17, 10), "29 ");
        same("in k, second", at(x, 19, 10), "23 ");
        x = of("interface F { abstract method void f(); } class K { static method void k(Object) { push 1; pop; load 0; pop; return; } } "
            + Judged.main("", "null; store 1; L: load 1; lambda F void K.k(Object); virtual void F.f(); new Object; store 1; push 1; ifeq L; return;"));
        // k 14 .. 18, main 19 .. : lambda 22, new Object 24
        same("the lambda alone is there first", at(x, 17, 10), "24 ");
        same("has", at(x, 23, 10) + x.field(0, -2, -1), "22 1");
    }

    private static void givenLate() {
        // a chain of calls whose methods stand the other way round
        ThreadJudge x = of("class K { static field Object o; static method Object a() { call Object K.b(); give; } static method Object b() { call Object K.c(); give; } static method Object c() { getstatic K.o; give; } } "
            + Judged.main("", "call Object K.a(); store 1; load 1; pop; new Object; putstatic K.o; return;"));
        same("given through all", at(x, x.count(6) - 4, 10), x.count(6) - 3 + " ");
        x = of("class K { static field Object o; static method Object c() { getstatic K.o; give; } static method Object b() { call Object K.c(); give; } static method Object a() { call Object K.b(); give; } } "
            + Judged.main("", "new Object; putstatic K.o; call Object K.a(); store 1; load 1; pop; return;"));
        same("given through all", at(x, x.count(6) - 2, 10), 20 + " ");
        // gives and lets go are two sets, of each instance
        String k = "class K { static method Throwable g() { push 1; ifeq L; new Index; give; L: new Cast; throw; } static method Throwable h() { push 1; ifeq L; new State; give; L: new Store; throw; } } ";
        // g: 14, 15, new Index 16, give 17, new Cast 18, throw 19; h: .. new State 22, new Store 24; main 26
        x = of(k + Judged.main("", "A: call Throwable K.g(); store 1; B: call Throwable K.h(); store 2; C: push 1; pop; return; H: return; I: return; catch Throwable A B H; catch Throwable B C I;"));
        int last = x.count(6) - 1;
        same("g gives", at(x, 27, 10), "16 ");
        same("h gives", at(x, 29, 10), "22 ");
        same("g lets go", at(x, last - 1, 10), "18 5006 ");
        same("h lets go", at(x, last, 10), "24 5006 ");
    }

    private static void startedLate() {
        // run itself starts another thread, which has the same run: its receiver comes to all of it
        ThreadJudge x = of("class T extends Thread { field Object f; method void run() { push 1; pop; load 0; store 1; load 1; pop; new U; virtual void Thread.start(); return; } } class U extends T { } " + Judged.main("", "new T; virtual void Thread.start(); return;"));
        // run 14 ..: load 0 16, store 17, load 1 18, pop 19, new U 20, start 21, return 22; main: new T 23
        same("both receivers", at(x, 14, 0), "20 23 ");
        same("behind", at(x, 19, 10), "20 23 ");
        same("at the end", at(x, 22, 1), "20 23 ");
        Judged.due("three threads", x.count(10), 3);
        // what run lets go late comes to all of uncaught
        x = of("class T extends Thread { static field Object e; method void run() { call void T.a(); return; } static method void a() { call void T.b(); return; } static method void b() { new Cast; throw; } method void uncaught(Throwable) { push 1; pop; load 1; store 2; load 2; putstatic T.e; return; } } " + Judged.main("", "new T; virtual void Thread.start(); return;"));
        int uncaught = x.method(20, 3);
        same("comes to uncaught", at(x, uncaught, 1), "18 5006 ");
        same("goes on there", at(x, uncaught + 5, 10), "18 5006 ");
        Judged.due("to its end", x.field(0, 1, -1), 2);
    }

    private static void letGoLate() {
        ThreadJudge x = of("class K { static method void a() { A: call void K.b(); B: return; H: putstatic K.e; return; catch Cast A B H; } static method void b() { call void K.c(); return; } static method void c() { call void K.d(); return; } static method void d() { push 1; ifeq L; new Cast; throw; L: new Index; throw; } static field Object e; } "
            + Judged.main("", "A: call void K.a(); B: return; H: return; catch Throwable A B H;"));
        // a: 14 call, 15 return, 16 putstatic, 17 return, b 18, 19, c 20, 21, d 22 ..: new Cast 24, new Index 26
        same("to the first catch", at(x, 16, 10), "24 ");
        same("the rest to main's", at(x, x.count(6) - 1, 10), "26 5006 ");
        Judged.due("kept", x.field(0, 1, -1), 1);
        // behind a catch, too
        for (String order : new String[] {"abcd", "dcba", "bdac"}) {
            StringBuilder k = new StringBuilder("class K { static field Object e; ");
            for (int n = 0; n < 4; n++) {
                char name = order.charAt(n);
                k.append("static method void ").append(name).append("() { ").append(name == 'd' ? "new Cast; throw; } " : "push 1; pop; call void K." + (char) (name + 1) + "(); return; } ");
            }
            x = of(k + "} " + Judged.main("", "goto S; H: store 1; push 5; pop; load 1; putstatic K.e; return; S: A: push 1; pop; call void K.a(); B: return; catch Cast A B H;"));
            int main = x.method(21, 3);
            Judged.due("caught, " + order, x.holds(main + 1, 10, -1), 1);
            Judged.due("behind it, " + order, x.holds(main + 3, 1, -1), 1);
            Judged.due("kept, " + order, x.field(0, 1, -1), 1);
        }
        x = of(Judged.main("class R { static method void r() { push 1; ifeq L; call void R.r(); L: push 1; ifeq M; call void R.s(); M: return; } static method void s() { call void R.r(); new Cast; throw; } } ", "A: call void R.r(); B: return; H: return; catch Throwable A B H;"));
        same("in a ring", at(x, x.count(6) - 1, 10), 22 + " 5006 ");
    }

    private static void heldLate() {
        // each is called from the one behind it; the last one also without anything that is held
        String k = "class K { static method void e() { return; } static method void d() { call void K.e(); return; } static method void c() { call void K.d(); return; } static method void b() { call void K.c(); return; } static method void a() { call void K.b(); return; } } ";
        String hold = "string \"s\"; enter; call void K.d(); call void K.c(); call void K.b(); call void K.a(); null; exit; ";
        ThreadJudge x = of(k + Judged.main("", hold + "return;"));
        Judged.due("held in all", x.held(14, true, -1), 1);
        x = of(k + Judged.main("", hold + "call void K.a(); return;"));
        for (int m = 17; m < 22; m++) {
            Judged.due("not held in " + m, x.held(x.method(m, 3), true, -1), 0);
            Judged.due("it may be in " + m, x.held(x.method(m, 3), false, -1), 1);
        }
        String back = "class K { static method void a() { call void K.b(); return; } static method void b() { call void K.c(); return; } static method void c() { call void K.d(); return; } static method void d() { call void K.e(); return; } static method void e() { return; } } ";
        for (String text : new String[] {k, back}) {
            for (String order : new String[] {"abcde", "edcba", "dbace", "cadbe"}) {
                StringBuilder lines = new StringBuilder("string \"s\"; enter; ");
                for (int n = 0; n < 5; n++) {
                    lines.append("call void K.").append(order.charAt(n)).append("(); ");
                }
                x = of(text + Judged.main("", lines + "null; exit; call void K.a(); return;"));
                for (int m = 17; m < 22; m++) {
                    Judged.due("not held in " + m + " by " + order, x.held(x.method(m, 3), true, -1), 0);
                }
                x = of(text + Judged.main("", lines + "null; exit; call void K.c(); return;"));
                for (int m = 17; m < 22; m++) {
                    int name = text == k ? 21 - m : m - 17;
                    Judged.due("held in " + m + " by " + order, x.held(x.method(m, 3), true, -1), name < 2 ? 1 : 0);
                }
            }
        }
    }

    private static void mayBeHeldLate() {
        for (String text : new String[] {"abcde", "edcba", "cadbe"}) {
            StringBuilder k = new StringBuilder("class K { ");
            for (int n = 0; n < 5; n++) {
                char name = text.charAt(n);
                k.append("static method void ").append(name).append("() { ").append(name == 'e' ? "" : "call void K." + (char) (name + 1) + "(); ").append("return; } ");
            }
            ThreadJudge x = of(k + "} " + Judged.main("", "call void K.e(); call void K.d(); call void K.c(); call void K.b(); string \"s\"; enter; call void K.a(); null; exit; return;"));
            for (int m = 17; m < 22; m++) {
                Judged.due("may be held in " + m + " of " + text, x.held(x.method(m, 3), false, -1), 1);
                Judged.due("surely in a alone", x.held(x.method(m, 3), true, -1), text.charAt(m - 17) == 'a' ? 1 : 0);
            }
        }
        // of two that are called, the one that is there last has it already
        String k = "class K { static method void z() { return; } static method void x(A) { load 0; virtual void A.m(); return; } static method void a(A) { load 0; call void K.x(A); return; } } class A { method void m() { call void K.z(); return; } } class B extends A { method void m() { return; } } ";
        for (String direct : new String[] {"load 2; virtual void A.m(); ", "load 1; virtual void A.m(); ", ""}) {
            ThreadJudge x = of(k + Judged.main("", "call void K.z(); new A; store 1; new B; store 2; load 1; virtual void A.m(); load 2; virtual void A.m(); load 1; call void K.x(A); load 2; call void K.x(A); string \"s\"; enter; " + direct + "load 1; call void K.a(A); load 2; call void K.a(A); null; exit; return;"));
            for (int m = 17; m < 22; m++) {
                Judged.due("may be held in " + m, x.held(x.method(m, 3), false, -1), 1);
            }
        }
        // of two that begin likewise
        k = "class K { static method void z() { return; } static method void x() { getstatic C.f; pop; return; } static method void a() { call void K.x(); return; } } class C extends S { static field int f; static method void <clinit>() { call void K.z(); return; } } class S { static field int g; static method void <clinit>() { return; } } ";
        ThreadJudge x = of(k + Judged.main("", "call void K.z(); getstatic S.g; pop; getstatic C.f; pop; call void K.x(); string \"s\"; enter; getstatic S.g; pop; call void K.a(); null; exit; return;"));
        for (int m = 17; m < 22; m++) {
            Judged.due("may be held in " + m, x.held(x.method(m, 3), false, -1), 1);
        }
    }

    private static void runLate() {
        // a thread runs what is called by what is called later than it: in another order than main calls them
        ThreadJudge x = of("class K { static method void x() { return; } static method void y() { call void K.x(); return; } static method void z() { call void K.y(); return; } } class T extends Thread { method void run() { call void K.z(); return; } } "
            + Judged.main("", "call void K.x(); call void K.y(); call void K.z(); new T; virtual void Thread.start(); return;"));
        Judged.due("thread 1 runs", x.thread(1, 2), 5);
        Judged.due("thread 0 runs", x.thread(0, 2), 4);
        Judged.due("x with x", x.parallel(14, 14), 0);
        x = of("class K { static method void x() { return; } static method void y() { call void K.x(); return; } static method void z() { call void K.y(); return; } } class T extends Thread { method void run() { call void K.z(); return; } } "
            + Judged.main("", "call void K.x(); new T; virtual void Thread.start(); call void K.z(); return;"));
        Judged.due("x behind the start", x.parallel(14, 14), 1);
    }

    private static void escapesLate() {
        // the row of fields leads from the object that is made last to the one that is made first
        ThreadJudge x = of("class A { field A a; static field A s; } " + Judged.main("", "new A; store 1; new A; store 2; new A; store 3; new A; store 4; load 4; load 3; put A.a; load 3; load 2; put A.a; load 2; load 1; put A.a; load 4; putstatic A.s; return;"));
        for (int o = 0; o < 4; o++) {
            Judged.due("escapes " + o, x.object(o, 4), 1);
        }
        // two that are side by side; what the second one has
        x = of("class A { field A a; static field A s; static field A t; } " + Judged.main("", "new A; putstatic A.s; new A; store 2; load 2; putstatic A.t; load 2; new A; put A.a; new A; pop; return;"));
        Judged.due("three of four", x.object(0, 4) * 1000 + x.object(1, 4) * 100 + x.object(2, 4) * 10 + x.object(3, 4), 1110);
    }

    private static void waysBackInMain() {
        // a way leads around the join, by steps back
        String t = "class T extends Thread { method void run() { return; } } ";
        ThreadJudge x = of(Judged.main(t, "new T; store 1; load 1; virtual void Thread.start(); push 1; ifeq J; goto Z; Y: push 5; pop; return; X: goto Y; Z: goto X; J: load 1; virtual void Thread.join(); goto Y;"));
        // run 14, main 15 .. : Y 22
        for (int i = 22; i < 25; i++) {
            Judged.due("around the join " + i, x.parallel(i, 14), 1);
        }
        x = of(Judged.main(t, "new T; store 1; load 1; virtual void Thread.start(); push 1; ifeq J; goto Z; Y: push 5; pop; return; X: goto J; Z: goto X; J: load 1; virtual void Thread.join(); goto Y;"));
        for (int i = 22; i < 25; i++) {
            Judged.due("behind the join " + i, x.parallel(i, 14), 0);
        }
        // once: a way that leads back by several steps
        x = of(Judged.main("class A { } ", "goto C; A: new A; pop; goto D; B: goto A; C: goto B; D: new A; pop; push 1; ifeq E; return; E: goto F; F: return;"));
        Judged.due("no way back to the first", x.object(0, 3), 1);
        x = of(Judged.main("class A { } ", "goto C; A: new A; pop; goto D; B: goto A; C: goto B; D: new A; pop; push 1; ifeq E; return; E: goto F; F: goto C;"));
        Judged.due("a way back to the first", x.object(0, 3), 0);
        Judged.due("and to the second", x.object(1, 3), 0);
    }

    private static void chainsOfKnots() {
        // a holds b, b holds c, .. the last holds a: told in another order than that of the objects
        String go = "static method void go(Object, Object) { load 0; enter; load 1; enter; null; exit; null; exit; return; } ";
        for (String order : new String[] {"0123", "3210", "1302", "2031"}) {
            StringBuilder lines = new StringBuilder();
            for (int k = 0; k < 4; k++) {
                int o = order.charAt(k) - '0';
                lines.append("load ").append(1 + o).append("; load ").append(1 + (o + 1) % 4).append("; call void Main.go(Object, Object); ");
            }
            String text = "class Main { " + go + "static method void main() { new Object; store 1; new Object; store 2; new Object; store 3; new Object; store 4; new Thread; virtual void Thread.start(); " + lines + "return; } }";
            ThreadJudge x = of(1, text);
            Judged.due("knots of a ring, " + order, x.count(13), 4);
            x = of(1, text.replace("load 4; load 1; call void Main.go(Object, Object); ", ""));
            Judged.due("knots of a row, " + order, x.count(13), 0);
        }
    }
}
