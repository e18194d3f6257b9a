/** The check: faults 20 to 27, rows of monitors, and what kind() and the heights tell. */
public final class CheckTest {
    private static final String MORE = "class A { field int n; field A a; static field A s; method void m() { return; } static method void t(A, int) { return; } static method int g() { push 1; give; } static method A ga() { null; give; } } class B extends A { }";

    public static void main(String[] args) {
        heights();
        rows();
        kinds();
        ends();
        order();
        told();
        Judged.end();
    }

    private static void wrong(int fault, String lines) {
        Judged.fault(fault, Judged.main(MORE, lines));
    }

    private static void fine(String lines) {
        Judged.fine(Judged.main(MORE, lines));
    }

    private static void heights() {
        Judged.fault(20, "class Main { static method void @main() { } }");
        Judged.fault(20, "class Main { static method void @main() { L: } }");
        Judged.fault(20, "class Main { static method void @main() { push 1; pop; } }");
        Judged.fault(20, "class Main { static method void @main() { push 1; ifeq L; return; L: } }");
        Judged.fault(20, "class Main { static method void @main() { A: push 1; pop; B: return; H: catch Throwable A B H; } }");
        wrong(21, "@pop; return;");
        wrong(21, "push 1; @add; return;");
        wrong(21, "push 1; push 1; push 1; push 1; push 1; push 1; push 1; push 1; @push 1; return;");
        wrong(21, "push 1; push 1; push 1; push 1; push 1; push 1; push 1; push 1; @dup; return;");
        fine("push 1; push 1; push 1; push 1; push 1; push 1; push 1; push 1; neg; add; return;");
        wrong(21, "push 1; @call void A.t(A, int); return;");
        wrong(22, "push 1; push 1; ifeq L; @pop; L: return;");
        wrong(22, "L: push 1; push 1; @ifeq L; return;");
        wrong(22, "getstatic A.s; ifnull X; goto H; X: A: @push 1; pop; B: H: return; catch Throwable A B H;");
        fine("getstatic A.s; ifnull E; push 1; goto F; E: push 2; F: pop; return;");
        // what is never come to is not looked at
        fine("return; pop; pop; add; goto X; X: give;");
        // both places behind the last one are one fault, which is looked at last
        Judged.fault(20, "class Main { static method void @main() { push 1; push 1; ifeq L; pop; goto M; L: goto M; M: } }");
        wrong(21, "push 1; ifeq L; goto E; L: @pop; return; E:");
    }

    private static void rows() {
        wrong(25, "new A; @exit; return;");
        fine("new A; enter; new A; exit; return;");
        wrong(27, "new A; enter; @return;");
        wrong(25, "new A; enter; new A; enter; new A; enter; new A; enter; new A; enter; new A; enter; new A; @enter; return;");
        fine("new A; enter; new A; enter; new A; enter; new A; enter; new A; enter; new A; enter; null; exit; null; exit; null; exit; null; exit; null; exit; null; exit; return;");
        wrong(26, "push 1; ifeq L; new A; @enter; L: return;");
        wrong(26, "L: new A; enter; @goto L;");
        wrong(26, "push 1; ifeq X; new A; enter; goto L; X: new A; @enter; L: null; exit; return;");
        wrong(26, "A: push 1; pop; new A; enter; @null; exit; B: return; H: pop; return; catch Throwable A B H;");
        fine("new A; enter; A: push 1; pop; null; B: exit; return; H: pop; null; exit; return; catch Throwable A B H;");
        Judged.fault(27, Judged.main("class C { static method int m() { new C; enter; push 1; @give; } }", "return;"));
        // an exception may leave with monitors held
        fine("new A; enter; new Cast; throw;");
    }

    private static void kinds() {
        wrong(23, "@load 3; pop; return;");
        wrong(23, "push 1; ifeq L; push 1; store 3; L: @load 3; pop; return;");
        wrong(23, "null; store 3; @inc 3 1; return;");
        fine("push 1; ifeq L; push 1; store 3; L: null; store 3; load 3; pop; return;");
        wrong(23, "null; @ifeq L; L: return;");
        wrong(23, "null; push 1; @add; pop; return;");
        wrong(23, "push 1; @ifnull L; L: return;");
        wrong(23, "push 1; null; @same L; L: return;");
        wrong(23, "new B; push 1; @put A.a; return;");
        wrong(23, "new A; new Object; @put A.a; return;");
        fine("new B; new B; put A.a; null; null; put A.a; new B; get B.n; pop; return;");
        wrong(23, "new A; @get B.n; pop; return;");
        wrong(23, "new Object; @putstatic A.s; return;");
        wrong(23, "push 1; @virtual void A.m(); return;");
        wrong(23, "new A; @virtual void B.m(); return;");
        wrong(23, "new A; new A; @call void A.t(A, int); return;");
        fine("null; push 1; call void A.t(A, int); call A A.ga(); push 1; call void A.t(A, int); return;");
        wrong(23, "null; push 1; push 1; setelement; new A; push 1; @element; pop; return;");
        wrong(23, "push 2; array int; push 0; null; @setelement; return;");
        wrong(23, "push 2; array A; push 0; push 1; @setelement; return;");
        fine("push 2; array A; push 0; new Object; setelement; push 2; array int; push 0; element; neg; pop; null; length; pop; return;");
        wrong(23, "push 1; ifeq L; push 2; array A; goto E; L: push 2; array int; E: push 0; @element; pop; return;");
        wrong(23, "new A; @length; pop; return;");
        // an element of what is never an array is of no kind
        fine("null; push 0; element; store 3; load 3; neg; load 3; enter; load 3; exit; pop; return;");
        wrong(23, "push 1; @cast A; pop; return;");
        wrong(23, "push 1; @enter; null; exit; return;");
        wrong(23, "new A; @throw;");
        fine("new NoClass; throw;");
        fine("null; throw;");
        wrong(23, "push 2; array Throwable; @throw;");
        wrong(23, "push 1; push 1; @lambda Runnable void A.t(A, int); pop; return;");
        fine("null; push 1; lambda Runnable void A.t(A, int); pop; return;");
        fine("push 2; array B; cast A[]; push 2; array int; cast Object; store 1; store 2; load 1; load 2; same L; L: return;");
        Judged.fault(23, Judged.main("class C { method A m() { new Object; @give; } } class A { }", "return;"));
        Judged.fault(23, Judged.main("class C { method int m() { null; @give; } } class A { }", "return;"));
        Judged.fine(Judged.main("class C { method Object[] m() { push 1; array C; give; } }", "return;"));
    }

    private static void ends() {
        Judged.fault(24, Judged.main("class C { method int m() { @return; } }", "return;"));
        Judged.fault(24, Judged.main("", "push 1; @give;"));
        Judged.fault(24, Judged.main("", "null; @give;"));
    }

    private static void order() {
        // heights of a method before its sets; the first method before the second
        Judged.fault(21, Judged.main("", "null; neg; pop; @pop; return;"));
        Judged.fault(23, Judged.main("class C { static method void m() { null; @neg; pop; return; } }", "pop; return;"));
        Judged.fault(23, Judged.main("", "push 1; ifeq L; null; @neg; pop; return; L: push 1; give;"));
        Judged.fault(12, Judged.main("class C { method void m() { pop; return; } }", "@goto L;"));
        // the lowest that is come to is looked at first, whatever its order of coming
        Judged.fault(21, Judged.main("", "goto X; Y: @pop; return; X: push 1; ifeq Y; pop; return;"));
    }

    private static void told() {
        ThreadJudge x = Judged.loaded(Judged.main(MORE + "class C { method int k(A, int[], Object[]) { getstatic A.s; store 5; load 2; push 1; ifeq L; null; store 5; L: pop; push 1; give; pop; A: push 3; pop; B: return; H: throw; catch Cast A B H; } }",
            "A: push 1; pop; B: return; H: store 1; return; catch Cast A B H;"));
        int k = x.method(20 + 1, 3);
        int c = 21;
        Judged.due("receiver", x.kind(k, 0, c), 1);
        Judged.due("receiver just that", x.kind(k, 0, 0), 0);
        Judged.due("A", x.kind(k, 1, 19), 1);
        Judged.due("int[] as array", x.kind(k, 2, -5), 1);
        Judged.due("int[] no class", x.kind(k, 2, 0), 0);
        Judged.due("Object[] as array", x.kind(k, 3, -5), 1);
        Judged.due("nothing", x.kind(k, 4, -4), 1);
        Judged.due("nothing is no int", x.kind(k, 4, -2), 0);
        Judged.due("no place", x.kind(k, 10, -2), -1);
        Judged.due("no kind -1", x.kind(k, 0, -1), -1);
        Judged.due("no kind -6", x.kind(k, 0, -6), -1);
        Judged.due("no class", x.kind(k, 0, x.count(3)), -1);
        Judged.due("place 18", x.kind(k, 18, -2), -1);
        Judged.due("place -1", x.kind(k, -1, -2), -1);
        Judged.due("at L: null", x.kind(k + 7, 5, -3), 1);
        Judged.due("at L: A", x.kind(k + 7, 5, 19), 1);
        Judged.due("at L: stack", x.kind(k + 7, 10, -5), 1);
        Judged.due("not come to", x.kind(k + 10, 0, c), -1);
        Judged.due("height not come to", x.instruction(k + 10, 3), -1);
        Judged.due("handler not come to", x.instruction(k + 14, 3), -1);
        int m = x.method(22, 3);
        Judged.due("handler", x.instruction(m + 3, 3), 1);
        Judged.due("handler's stack", x.kind(m + 3, 10, 9), 1);
        Judged.due("handler's local", x.kind(m + 3, 1, -4), 1);
        Judged.due("behind it", x.kind(m + 4, 1, 9), 1);
        Judged.due("library", x.instruction(5, 3), 0);
        Judged.due("none such", x.kind(x.count(6), 0, 0), -1);
    }
}
