/** Linking: the faults 10 to 13, and promises 5 to 7: what is told of classes, methods, instructions. */
public final class LinkTest {
    private static final String MAIN = " class Main { static method void main() { return; } }";

    public static void main(String[] args) {
        classFaults();
        memberFaults();
        typesAbove();
        lineFaults();
        callFaults();
        mainFault();
        classesAndMethods();
        instructions();
        selection();
        Judged.end();
    }

    private static void classFaults() {
        Judged.fault(10, "class A { } class @A { }" + MAIN);
        Judged.fault(10, "class @Object { }" + MAIN);
        Judged.fault(10, "class A extends @B { }" + MAIN);
        Judged.fault(10, "class A extends @Runnable { }" + MAIN);
        Judged.fault(10, "class A implements @Object { }" + MAIN);
        Judged.fault(10, "class A implements Runnable, @B { }" + MAIN);
        Judged.fault(10, "interface I extends @Object { }" + MAIN);
        Judged.fault(10, "interface I extends @Runnable { }" + MAIN);
        Judged.fault(10, "class @A extends A { }" + MAIN);
        Judged.fault(10, "class @A extends B { } class B extends A { }" + MAIN);
        Judged.fault(10, "class C extends A { } class @A extends B { } class B extends A { }" + MAIN);
        Judged.fault(10, "interface @I implements J { } interface J implements I { }" + MAIN);
        Judged.fault(10, "interface @I extends J { } class J implements I { }" + MAIN);
        Judged.fault(10, "abstract interface @I { }" + MAIN);
        Judged.fault(10, "class A { method Q m() { return; } } class B extends @Q { }" + MAIN);
        Judged.fine("class B extends A { } class A { }" + MAIN);
        Judged.fine("class A implements Runnable, Runnable { }" + MAIN);
        Judged.fine("excluded abstract class A { } excluded interface I { }" + MAIN);
    }

    private static void member(String member) {
        Judged.fault(11, "class A { " + member + " }" + MAIN);
    }

    private static void memberFaults() {
        member("field Q @a;");
        member("field void @a;");
        member("field void[] @a;");
        member("field Q[] @a;");
        member("method void @m(Q) { return; }");
        member("method void @m(int, void) { return; }");
        member("method void[] @m() { null; give; }");
        member("method Q @m() { null; give; }");
        member("field int a; static field A @a;");
        member("method void m(int) { return; } static method int @m(int) { push 1; give; }");
        Judged.fine("class A { field int m; method void m(int) { return; } method void m(int[]) { return; } }" + MAIN);
        member("static method void @<init>() { return; }");
        member("method int @<init>() { push 1; give; }");
        member("method void @<clinit>() { return; }");
        member("static method int @<clinit>() { push 1; give; }");
        member("static method void @<clinit>(int) { return; }");
        member("synchronized static method void @<clinit>() { return; }");
        member("synchronized method void @<init>() { return; }");
        member("method void @<m>() { return; }");
        member("field int @<a>;");
        member("field int @<init>;");
        member("abstract field int @a;");
        member("synchronized field int @a;");
        member("final volatile field int @a;");
        Judged.fault(11, "interface A { field int @a; }" + MAIN);
        Judged.fine("interface A { static field int a; static method void <clinit>() { return; } }" + MAIN);
        member("volatile method void @m() { return; }");
        member("final method void @m() { return; }");
        member("method void @m();");
        member("abstract method void @m();");
        Judged.fault(11, "abstract class A { abstract method void @m() { return; } }" + MAIN);
        Judged.fault(11, "abstract class A { abstract static method void @m(); }" + MAIN);
        Judged.fault(11, "abstract class A { abstract synchronized method void @m(); }" + MAIN);
        Judged.fault(11, "interface A { method void @<init>() { return; } }" + MAIN);
        Judged.fine("abstract class A { abstract method void m(); } interface B { abstract method void m(); }" + MAIN);
    }

    private static void typesAbove() {
        Judged.fault(11, "class A { method void m() { return; } } class B extends A { method int @m() { push 1; give; } }" + MAIN);
        Judged.fine("class A { static method void m() { return; } } class B extends A { method int m() { push 1; give; } }" + MAIN);
        Judged.fine("class A { method void m() { return; } } class B extends A { static method int m() { push 1; give; } }" + MAIN);
        Judged.fault(11, "class A { method int @wait() { push 1; give; } }" + MAIN);
        Judged.fault(11, "interface I { abstract method int m(); } interface J { abstract method void m(); } class @C implements I, J { }" + MAIN);
        Judged.fault(11, "interface I { abstract method int m(); } class A { method void m() { return; } } class @C extends A implements I { }" + MAIN);
        Judged.fault(11, "interface I { abstract method int run(); } class @C extends Thread implements I { }" + MAIN);
        Judged.fault(11, "class @C extends A implements I { } interface I { abstract method P m(); } class A { method void m() { return; } }" + MAIN);
        Judged.fault(11, "class C extends A implements I { } interface I { abstract method P @m(); } class A { method Q m() { return; } }" + MAIN);
    }

    private static void line(String lines) {
        Judged.fault(12, Judged.main("abstract class Abs { abstract method void m(); static field int s; field int f; final field int ff; final static field int fs; static method void t() { return; } } interface I { } interface Fn { abstract method int f(int); }", lines + " return;"));
    }

    private static void lineFaults() {
        line("L: push 1; pop; @L:");
        line("@goto L;");
        line("push 1; @ifeq L;");
        line("A: push 1; pop; B: H: @catch Throwable B A H;");
        line("A: B: push 1; pop; H: @catch Throwable A B H;");
        line("A: push 1; pop; B: @catch Throwable A B H;");
        line("A: push 1; pop; B: H: @catch Object A B H;");
        line("A: push 1; pop; B: H: @catch Q A B H;");
        line("@new Q; pop;");
        line("@new I; pop;");
        line("@new Abs; pop;");
        line("push 1; @array void; pop;");
        line("push 1; @array int[]; pop;");
        line("push 1; @array Q; pop;");
        line("null; @cast int; pop;");
        line("null; @is int; pop;");
        line("null; @is void[]; pop;");
        line("null; @cast Q[]; pop;");
        line("@load 10;");
        line("@load -1;");
        line("push 1; @store 10;");
        line("@inc 10 1;");
        line("@getstatic Q.a; pop;");
        line("@getstatic Abs.f; pop;");
        line("null; @get Abs.s; pop;");
        line("null; @get Abs.q; pop;");
        line("null; push 1; @put Abs.ff;");
        line("push 1; @putstatic Abs.fs;");
        Judged.fine(Judged.main("class A { final field int f; final static field int s; method void <init>() { load 0; push 1; put A.f; return; } static method void <clinit>() { push 1; putstatic A.s; return; } }", "getstatic A.s; pop; null; cast int[]; pop; return;"));
        Judged.fault(12, "class A { final field int f; } class B extends A { method void <init>() { load 0; push 1; @put A.f; return; } }" + MAIN);
        Judged.fault(12, "class A { final static field int f; static method void m() { push 1; @putstatic A.f; return; } }" + MAIN);
        Judged.fault(12, "class A { final static field int f; method void <init>() { push 1; @putstatic A.f; return; } }" + MAIN);
    }

    private static void callFaults() {
        line("@call void Abs.q();");
        line("@call int Abs.t();");
        line("@call void Q.t();");
        line("@call void Abs.t(int);");
        line("@call void Abs.t(Q);");
        line("null; @call void Abs.m();");
        line("null; @virtual void Abs.t();");
        line("null; @virtual void Abs.<init>();");
        line("null; @special void Abs.m();");
        line("null; @special void Abs.t();");
        line("null; @special void Object.wait();");
        line("@call void Abs.<clinit>();");
        Judged.fine(Judged.main("", "new Main; special void Main.<init>(); return;"));
        Judged.fine("class A { method void m() { load 0; special void Object.notify(); return; } }" + MAIN);
        String fn = "interface Fn { abstract method int f(int); } interface Two { abstract method void a(); abstract method void b(); } interface None { method void d() { return; } }"
            + " interface Sub implements Fn { method int f(int) { push 1; give; } abstract method void g(); } class A { static method int k(Object, int) { push 1; give; } static method void v(int) { return; } static method void n() { return; } method int o(int) { push 1; give; } }";
        Judged.fine(Judged.main(fn, "null; lambda Fn int A.k(Object, int); pop; lambda Sub void A.n(); pop; return;"));
        for (String wrong : new String[] {"lambda Fn void A.v(int)", "lambda A int A.k(Object, int)", "lambda Two void A.n()",
            "lambda None void A.n()", "lambda Fn int A.o(int)", "lambda Q void A.n()", "lambda Fn void A.n()"}) {
            Judged.fault(12, Judged.main(fn, "null; @" + wrong + "; pop; return;"));
        }
        Judged.fault(12, Judged.main("interface P { abstract method void p(int); }", "@lambda P void Out.print(int); pop; return;"));
    }

    private static void mainFault() {
        Judged.fault(13, "");
        Judged.fault(13, "class A { }");
        Judged.fault(13, "excluded class A { static method void main() { return; } } class B extends A { static method void main() { return; } } ");
        Judged.fault(13, "class A { method void main() { return; } static method void main(int) { return; } static method int main(int[]) { push 1; give; } }# x");
        ThreadJudge x = Judged.loaded("excluded class A { static method void main() { return; } } class B { static method void main() { return; } } class C { static method void main() { return; } }");
        x.analyse(0, 1);
        Judged.due("MAIN", Judged.ask(x, "main"), 1);
        Judged.due("MAIN is B's", x.answered(0), 18);
        Judged.fine("interface A { static method void main() { return; } }");
    }

    private static void classesAndMethods() {
        String text = "abstract class Ab { } excluded interface I { abstract method void m(); } class Long_name extends Ab implements I { field int f; static synchronized method int x(int, I[]) { push 1; give; } method void m() { A: push 1; pop; B: return; H: pop; return; catch State A B H; catch Cast A B H; } }" + MAIN;
        ThreadJudge x = Judged.loaded(text);
        Judged.due("Object extends", x.classOf(0, 0), -1);
        Judged.due("Thread extends", x.classOf(16, 0), 0);
        Judged.due("Cast extends", x.classOf(9, 0), 5);
        Judged.due("Runnable", x.classOf(1, 1), 1);
        Judged.due("Ab", x.classOf(19, 2), 1);
        Judged.due("I excluded", x.classOf(20, 3), 1);
        Judged.due("I interface", x.classOf(20, 1), 1);
        Judged.due("I not abstract", x.classOf(20, 2), 0);
        Judged.due("I extends", x.classOf(20, 0), 0);
        Judged.due("C extends", x.classOf(21, 0), 19);
        Judged.due("C first", x.classOf(21, 4), 18);
        Judged.due("C how many", x.classOf(21, 5), 2);
        Judged.due("C name", x.classOf(21, 6), 9);
        Judged.due("no what", x.classOf(21, 7), -1);
        Judged.due("no what", x.classOf(21, -1), -1);
        Judged.due("no class", x.classOf(23, 0), -1);
        Judged.due("no class", x.classOf(-1, 0), -1);
        Judged.due("m class", x.method(18, 0), 21);
        Judged.due("m params", x.method(18, 1), 2);
        Judged.due("m flags", x.method(18, 2), 5);
        Judged.due("I.m flags", x.method(17, 2), 2);
        Judged.due("wait flags", x.method(1, 2), 8);
        Judged.due("run flags", x.method(4, 2), 2);
        Judged.due("named flags", x.method(5, 2), 9);
        Judged.due("first", x.method(18, 3), 14);
        Judged.due("no first", x.method(17, 3), -1);
        Judged.due("no first", x.method(1, 3), -1);
        Judged.due("count", x.method(18, 4), 2);
        Judged.due("no count", x.method(17, 4), 0);
        Judged.due("place", x.method(18, 5), text.indexOf("x(int"));
        Judged.due("no place", x.method(0, 5), -1);
        Judged.due("catches", x.method(19, 6), 2);
        Judged.due("no catches", x.method(18, 6), 0);
        Judged.due("no what", x.method(18, 7), -1);
        Judged.due("no method", x.method(21, 0), -1);
        Judged.due("below", x.below(21, 20), 1);
        Judged.due("below", x.below(21, 19), 1);
        Judged.due("below", x.below(20, 0), 1);
        Judged.due("below itself", x.below(20, 20), 1);
        Judged.due("not below", x.below(19, 21), 0);
        Judged.due("none such", x.below(23, 0), -1);
        Judged.due("none such", x.below(0, -1), -1);
    }

    private static void instructions() {
        ThreadJudge x = Judged.loaded(Judged.main("class A { field int f; static field int[] g; static method void s(int) { return; } }",
            "push -7; store 3; inc 3 5; L: string \"a\"; pop; string \"b\"; pop; new A; get A.f; pop; getstatic A.g; pop; push 1; array A; pop; push 1; array int; pop; null; cast A[]; is int[]; ifeq L; null; cast A; pop; lambda Runnable void Main.main(); pop; push 1; call void A.s(int); return; goto L; pop;"));
        int first = 15;
        int[][] due = {{0, -7, 0}, {4, 3, 1}, {5, 3, 0}, {1, 0, 0}, {17, 0, 1}, {1, 1, 0}, {17, 0, 1}, {42, 19, 0}, {38, 1, 1}, {17, 0, 1},
            {40, 2, 0}, {17, 0, 1}, {0, 1, 0}, {43, -22, 1}, {17, 0, 1}, {0, 1, 0}, {43, -2, 1}, {17, 0, 1}, {2, 0, 0}, {47, -22, 1}, {48, -2, 1},
            {22, first + 3, 1}, {2, 0, 0}, {47, 19, 1}, {17, 0, 1}, {52, 18, 0}, {17, 0, 1}, {0, 1, 0}, {51, 17, 1}, {56, 0, 0}, {21, first + 3, -1}, {17, 0, -1}};
        for (int k = 0; k < due.length; k++) {
            Judged.due("op of " + k, x.instruction(first + k, 0), due[k][0]);
            Judged.due("method of " + k, x.instruction(first + k, 1), 18);
            Judged.due("named by " + k, x.instruction(first + k, 2), due[k][1]);
            Judged.due("height of " + k, x.instruction(first + k, 3), due[k][2]);
        }
        Judged.due("none such", x.instruction(first + due.length, 0), -1);
        Judged.due("none such", x.instruction(-1, 0), -1);
        Judged.due("no what", x.instruction(0, 4), -1);
        Judged.due("target", x.instruction(4, 2), 0);
        Judged.due("run's call", x.instruction(11, 2), 4);
    }

    private static void selection() {
        ThreadJudge x = Judged.loaded("interface I { method void m() { return; } } interface J implements I { } interface K implements I { method void m() { return; } }"
            + " interface N { method void m() { return; } } class A implements J { } class B implements I, K { } class C implements J, N { }"
            + " class D extends A { static method void m() { return; } } abstract class E extends A { abstract method void m(); } class G extends E { } interface P implements K { abstract method void m(); } class Q implements P { }" + MAIN);
        // I.m 17, K.m 18, N.m 19, D.m 20, E.m 21, P.m 22
        int[] due = {17, 17, 18, 19, 17, 18, -1, 17, -1, -1, -1, 18};
        for (int c = 0; c < due.length; c++) {
            Judged.due("m selected from " + (19 + c), x.selected(19 + c, 17), due[c]);
            Judged.due("m by another method from " + (19 + c), x.selected(19 + c, 21), due[c]);
        }
        Judged.due("from Object", x.selected(0, 17), -1);
        Judged.due("wait", x.selected(22, 1), 1);
        Judged.due("run of Thread", x.selected(16, 4), 11);
        Judged.due("run of Runnable", x.selected(1, 11), -1);
        Judged.due("<init>", x.selected(23, 9), 0);
        Judged.due("static", x.selected(16, 16), -1);
        Judged.due("none such", x.selected(32, 0), -1);
        Judged.due("none such", x.selected(0, 24), -1);
    }
}
