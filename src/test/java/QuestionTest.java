/** Promises 15 and 16: ask, answer and answered. */
public final class QuestionTest {
    private static ThreadJudge x;

    public static void main(String[] args) {
        x = Judged.loaded("class all { static method void main() { return; } } class A { method void gets() { return; } static method void <clinit>() { return; } static synchronized method void s() { call void A.t(); return; } static method void t() { null; enter; null; exit; getstatic Main.n; pop; return; } } "
            + "class T extends Thread { method void run() { push 1; putstatic Main.n; call void A.s(); return; } } class Main { static field int n; static method void main() { new T; virtual void Thread.start(); call void A.t(); return; } }");
        asking();
        terms();
        sums();
        faults();
        Judged.end();
    }

    private static void anew() {
        x = Judged.loaded("class A { method void gets() { return; } static method void <clinit>() { return; } static synchronized method void s() { call void A.t(); return; } static method void t() { null; enter; null; exit; getstatic Main.n; pop; return; } } "
            + "class T extends Thread { method void run() { push 1; putstatic Main.n; call void A.s(); return; } } class Main { static field int n; static method void main() { new T; virtual void Thread.start(); call void A.t(); return; } }");
        x.analyse(0, 300);
    }

    private static void asking() {
        Judged.due("not analysed", Judged.ask(x, "all"), -1000);
        Judged.due("the question stays", x.ask('|'), 4);
        x.analyse(0, 300);
        Judged.due("sign 31", x.ask(31), -1);
        Judged.due("sign 127", x.ask(127), -1);
        Judged.due("ends too early", x.answer(), -5);
        Judged.due("is empty then", x.ask(' '), 1);
        for (int k = 2; k <= 200; k++) {
            Judged.due("sign " + k, x.ask('('), k);
        }
        Judged.due("has 200", x.ask('('), -1);
        Judged.due("brackets", x.answer(), -22);
    }

    /** Main of all is the first one: 17; gets 18, clinit 19, s 20, t 21, run 22, Main.main 23. */
    private static void is(String question, int... due) {
        Judged.due(question, Judged.ask(x, question), due.length);
        for (int k = 0; k < due.length; k++) {
            Judged.due(question + " " + k, x.answered(k), due[k]);
        }
        Judged.due(question + " no more", x.answered(due.length), -1);
        Judged.due(question + " -1", x.answered(-1), -1);
    }

    private static void terms() {
        Judged.due("all", Judged.ask(x, "all"), 24);
        Judged.due("all 23", x.answered(23), 23);
        is("main", 17);
        is("A", 18, 19, 20, 21);
        is("A.gets", 18);
        is("A.get");
        is("A . <clinit>", 19);
        is("A.nothing");
        is("A.a_word_that_is_longer_than_any_name_can_be");
        is("Thread.<init>", 9, 10);
        is("native", 1, 2, 3, 5, 6, 7, 8, 13, 14, 15, 16);
        is("locking", 20, 21);
        is("reached", 17);
        is("starting");
        anew();
        // gets 17, clinit 18, s 19, t 20, run 21, main 22; uncaught 12
        is("reached", 12, 18, 19, 20, 21, 22);
        is("racing", 20, 21);
        is("starting", 22);
        is("callers(A.t)", 19, 22);
        is("callees(main)", 12, 18, 20, 21);
        is("into(A.t)", 19, 20, 21, 22);
        is("from(T)", 18, 19, 20, 21);
        is("callers(A.<clinit>)", 19, 21, 22);
        is("callees(A.gets)");
    }

    private static void sums() {
        anew();
        is("A | T - A.t", 17, 18, 19, 21);
        is("A - A.t | T & main", 17, 18, 19);
        is("A & reached - A.s", 18, 20);
        is("(A | T) & (reached - A.s)", 18, 20, 21);
        is(" callers ( callees ( main ) - T . run ) & locking ", 19);
        is("from(into(A.t)&locking)", 18, 19, 20);
        is("((((((((((((((((((((main))))))))))))))))))))", 22);
        is("A-A");
    }

    private static void wrong(String question, int place) {
        Judged.ask(x, "T");
        Judged.due(question, Judged.ask(x, question), -1 - place);
        Judged.due("the last answer stays", x.answered(0), 21);
    }

    private static void faults() {
        anew();
        wrong("", 0);
        wrong("   ", 3);
        wrong("A |", 3);
        wrong("A T", 2);
        wrong("Q | T", 0);
        wrong("A | Q.a", 4);
        wrong("A.", 2);
        wrong("A . |", 4);
        wrong("A.5", 2);
        wrong("| A", 0);
        wrong("A && T", 3);
        wrong("(A", 2);
        anew();
        wrong("A)", 1);
        wrong("()", 1);
        wrong("callers A", 8);
        wrong("callers", 7);
        wrong("callers()", 8);
        wrong("main.main", 4);
        wrong("push", 0);
        wrong("int", 0);
        wrong("class", 0);
        wrong("A % T", 2);
        wrong("9", 0);
        wrong("(((((((((((((((((((((A", 20);
        wrong("from(((((((((((((((((((from(from(A", 32);
        wrong("A_class_that_is_longer_than_any_name", 0);
        Judged.ask(x, "T");
        x.analyse(1, 300);
        Judged.due("stays when analysed again", x.answered(0), 21);
        x.load();
        Judged.due("gone when loaded", x.answered(0), -1);
    }
}
