import java.util.ArrayList;
import java.util.List;

/** What was there before leaves nothing: each text behind each other one on one object answers as it does on a new one. */
public final class AnewTest {
    private static final String MAIN = " class Main { static method void main() { return; } }";
    private static final String FAR = "class A extends Thread { field int n; field A a; volatile field int v; static field Object s; static final field int c; method void <init>(int) { return; } synchronized method void run() { load 0; push 1; put A.n; load 0; enter; null; exit; getstatic A.s; pop; string \"x\"; throw; } "
        .replace("string \"x\"; throw;", "new State; throw;")
        + "static synchronized method void s(int, A, A[]) { return; } static method void <clinit>() { push 3; putstatic A.c; return; } } class B extends A implements I { method void i() { return; } } interface I { abstract method void i(); } ";
    private static final String[] TEXTS = {
        "", "?", "class", MAIN, MAIN + " ?", "class A { field int 5; }",
        "class A { } ".repeat(25), "class A { } class A { }" + MAIN, "class A extends Q { }" + MAIN, "class A extends A { }" + MAIN, "abstract interface I { }" + MAIN,
        "class A { field void a; }" + MAIN, "class A { method Q m(Q, void) { null; give; } }" + MAIN, "class A { method void m(); }" + MAIN, "interface I { field int a; }" + MAIN,
        "class A { method void m(void, void, void, void, void, void) { return; } }" + MAIN,
        Judged.main("", "goto L;"), Judged.main("", "new Q;"), Judged.main("class A { } ", "L: L: null; get A.f; return; catch Throwable L L L;"), Judged.main("", "call void A.b(Q, int, A);"), "class A { }",
        Judged.main("", "push 1;"), Judged.main("", "pop; return;"), Judged.main("", "L: push 1; goto L;"), Judged.main("", "null; exit; return;"), Judged.main("", "null; enter; return;"), Judged.main("", "push 1; ifeq L; null; enter; L: return;"),
        Judged.main("", "load 0; pop; return;"), Judged.main("", "push 1; give;"), Judged.main("class A { } class B extends A { } class C { static method void c(A) { return; } } ", "new B; call void C.c(A); return;"),
        Judged.main("class A { } class B { } class C { static method void c(A) { return; } } ", "new B; call void C.c(A); return;"),
        Judged.main("class A { field int a; field int b; } ", "null; get A.b; pop; return;"), Judged.main("class A { field int a; } ", "null; get A.b; pop; return;"),
        Judged.main("class A { method void a() { return; } method void b() { return; } } ", "null; virtual void A.b(); return;"), Judged.main("class A { method void a() { return; } } ", "null; virtual void A.b(); return;"),
        Judged.main("", "string \"a\"; string \"b\"; string \"c\"; return;"), Judged.main("", "string \"c\"; string \"a\"; return;"),
        Judged.main("", "A: push 0; pop; B: return; H: pop; return; catch Cast A B H; catch Throwable A B H;"),
        Judged.main(FAR, "new A; dup; store 1; virtual void Thread.start(); load 1; virtual void Thread.start(); new B; virtual void Thread.start(); push 1; null; null; call void A.s(int, A, A[]); load 1; enter; load 1; virtual void Object.wait(); null; exit; return;"),
        Judged.main(FAR, "new B; dup; store 1; call void Runtime.hook(Thread); load 1; putstatic A.s; push 7; call void Out.print(int); string \"A\"; call Class Class.named(String); virtual Object Class.newInstance(); pop; return;"),
        Judged.main("excluded " + FAR, "new A; virtual void Thread.start(); push 1; null; null; call void A.s(int, A, A[]); return;"),
        "interface F { abstract method int f(int); } " + Judged.main("class A { static method int g(Object, int) { load 1; give; } } ", "new Object; lambda F int A.g(Object, int); push 2; virtual int F.f(int); call void Out.print(int); push 5; array F; dup; push 0; null; setelement; length; call void Out.print(int); return;"),
        Judged.main("class A { static method void l() { L: call void A.l(); return; } } ", "call void A.l(); return;"),
        "class C { synchronized method void c() { return; } } " + Judged.main("class A extends C { } ", "new A; virtual void C.c(); L: goto L;")};

    public static void main(String[] args) {
        List<List<Integer>> due = new ArrayList<>();
        int right = 0;
        for (String text : TEXTS) {
            ThreadJudge x = Judged.of(text);
            due.add(answers(x));
            right += x.count(0) == 0 ? 1 : 0;
        }
        Judged.due("texts without a fault", right, 13);
        for (int p = 0; p < TEXTS.length; p++) {
            for (int q = 0; q < TEXTS.length; q++) {
                ThreadJudge x = Judged.of(TEXTS[p]);
                x.load();
                x.analyse(1, 300);
                x.begin();
                x.run(60, p + q);
                x.clear();
                List<Integer> got = answers(Judged.feed(x, TEXTS[q]));
                boolean same = got.equals(due.get(q));
                Judged.due("text " + q + " behind text " + p + ": " + (same ? "" : TEXTS[q] + " " + got + " not " + due.get(q)), same ? 1 : 0, 1);
            }
        }
        Judged.end();
    }

    /** Loads a text: the fault and its place, or what is at hand, what may be, and a run. */
    private static List<Integer> answers(ThreadJudge x) {
        List<Integer> all = new ArrayList<>();
        all.add(x.load());
        for (int what = 0; what < 25; what++) {
            all.add(x.count(what));
        }
        if (x.count(0) != 0) {
            all.add(x.classOf(0, 1) + x.method(0, 1) + x.instruction(0, 0) + x.analyse(0, 300));
            return all;
        }
        for (int c = 19; c < x.count(3); c++) {
            for (int what = 0; what < 7; what++) {
                all.add(x.classOf(c, what));
            }
            all.add(x.below(c, 16) * 2 + x.below(c, 19));
            all.add(x.selected(c, 0));
        }
        for (int m = 17; m < x.count(5); m++) {
            all.add(x.method(m, 2) * 100 + x.method(m, 4));
            all.add(x.method(m, 6));
        }
        for (int i = 14; i < x.count(6); i++) {
            all.add(x.instruction(i, 2));
            all.add(x.instruction(i, 3));
        }
        all.add(x.analyse(1, 300));
        for (int what = 8; what < 17; what++) {
            all.add(x.count(what));
        }
        for (int o = 0; o < x.count(9); o++) {
            all.add(x.object(o, 3) * 2 + x.object(o, 4));
        }
        x.begin();
        all.add(x.run(200, 3));
        for (int what = 17; what < 25; what++) {
            all.add(x.count(what));
        }
        for (int n = 0; n < x.count(18); n++) {
            all.add(x.thing(n, 1) * 16 + x.thing(n, 3));
            all.add(x.value(n, 0) * 31 + x.value(n, 1));
        }
        for (int t = 0; t < x.count(19); t++) {
            all.add(x.state(t, 0) * 100 + x.state(t, 2));
        }
        all.add(x.said(0));
        all.add(x.clash(0, 0));
        all.add(x.foreseen() ? 1 : 0);
        all.add(Judged.ask(x, "reached"));
        return all;
    }
}
