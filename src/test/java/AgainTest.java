import java.util.ArrayList;
import java.util.List;

/** "What was analysed before, and the run, are gone": all answers about what may be, behind another analysis of the same or of another text, are those of a new object. */
public final class AgainTest {
    private static final String T = "class T extends Thread implements Runnable { field T t; field Object o; static field T s; field T[] r; synchronized method void run() { load 0; get T.t; ifnull L; load 0; get T.t; enter; load 0; get T.t; store 1; load 1; putstatic T.s; null; exit; L: new State; throw; } method void uncaught(Throwable) { load 0; load 1; put T.o; return; } static method void <clinit>() { new T; putstatic T.s; return; } } ";
    private static final String[] TEXTS = {
        T + "class U extends T { method void run() { load 0; special void T.run(); return; } method Object got() { load 0; get T.o; give; } } "
            + Judged.main("", "new T; store 1; new U; store 2; load 1; load 2; put T.t; load 2; load 1; put T.t; load 1; virtual void Thread.start(); load 2; virtual void Thread.start(); load 2; virtual void Object.wait(); load 1; enter; L: load 1; virtual void Object.wait(); push 1; ifeq L; null; exit; load 1; virtual void Thread.join(); load 2; virtual void Thread.run(); load 2; cast U; virtual Object U.got(); pop; return;"),
        "interface F { abstract method Object f(Object); } class K { static field Object s; field Object o; static method Object k(Object, Object) { load 1; putstatic K.s; load 0; give; } method Object m() { load 0; get K.o; give; } method void <init>() { load 0; string \"x\"; put K.o; return; } } "
            + Judged.main("class H extends Thread { method void run() { getstatic K.s; cast K; store 1; load 1; load 0; put K.o; load 1; get K.o; pop; return; } } ", "A: new K; lambda F Object K.k(Object, Object); new K; dup; special void K.<init>(); virtual Object F.f(Object); pop; string \"K\"; call Class Class.named(String); dup; virtual Object Class.newInstance(); store 1; string \"m\"; virtual Method Class.find(String); load 1; virtual Object Method.invoke(Object); store 2; new H; call void Runtime.hook(Thread); push 2; array Object; dup; push 0; load 2; setelement; push 0; element; pop; B: getstatic K.s; cast K; push 1; pop; string \"y\"; put K.o; return; E: putstatic K.s; return; catch Cast A B E;"),
        "excluded class X extends Thread { static field Object f; method void run() { return; } static method void x() { return; } static method void <clinit>() { return; } } class S { static field int n; static field Object l; static method void w(Object) { load 0; enter; getstatic S.n; push 1; add; putstatic S.n; null; exit; return; } static method void v(Object) { load 0; call void S.w(Object); return; } } class R extends Thread { method void run() { load 0; call void S.v(Object); string \"l\"; call void S.w(Object); return; } } "
            + Judged.main("", "new X; virtual void Thread.start(); call void X.x(); getstatic X.f; pop; L: new R; virtual void Thread.start(); push 0; ifne L; string \"l\"; call void S.w(Object); string \"m\"; enter; string \"l\"; call void S.v(Object); null; exit; string \"l\"; enter; string \"m\"; call void S.v(Object); null; exit; return;"),
        Judged.main("", "return;")};

    private AgainTest() {
    }

    public static void main(String[] args) {
        for (int of = 0; of < TEXTS.length; of++) {
            for (int policy = 0; policy < 4; policy++) {
                List<int[]> asked = questions(TEXTS[of], policy);
                List<Integer> due = answers(asked, TEXTS[of], policy, TEXTS[of], -1);
                Judged.due("as each other new one", answers(asked, TEXTS[of], policy, TEXTS[of], -1).equals(due) ? 1 : 0, 1);
                for (int before = 0; before < TEXTS.length; before++) {
                    int other = (policy + before + of) % 4;
                    Judged.due("text " + of + " by " + policy + " behind text " + before + " by " + other, first(asked, answers(asked, TEXTS[of], policy, TEXTS[before], other), due), -1);
                }
                Judged.due("text " + of + " by " + policy + " behind all that are granted too few", first(asked, answers(asked, TEXTS[of], policy, TEXTS[of], 3 + 4), due), -1);
            }
        }
        runs();
        hooksAgain();
        knotsAgain();
        onceAgain();
        parallelAgain();
        Judged.end();
    }

    /** The first of all methods is once by one policy, and by another text it is not. */
    private static void onceAgain() {
        String one = Judged.main("", "new Object; special void Object.<init>(); return;");
        ThreadJudge x = Judged.loaded(one);
        x.analyse(0, 300);
        Judged.due("called by one", x.reached(0, 1), 1);
        x.clear();
        Judged.feed(x, one.replace("new Object;", "new Object; dup; special void Object.<init>();"));
        Judged.due("loaded", x.load(), 0);
        x.analyse(0, 300);
        Judged.due("called by two", x.reached(0, 1), 0);
        x.clear();
        Judged.feed(x, Judged.main("", "return;"));
        Judged.due("loaded", x.load(), 0);
        x.analyse(0, 300);
        Judged.due("called by none", x.reached(0, 1), 0);
    }

    /** Runs anew, behind others of the same object: all that may be told. */
    private static void runs() {
        for (String text : TEXTS) {
            List<List<Integer>> due = new ArrayList<>();
            for (int draw = 0; draw < 6; draw++) {
                due.add(ran(Judged.loaded(text), draw));
            }
            for (int draw = 0; draw < 6; draw++) {
                ThreadJudge x = Judged.loaded(text);
                x.begin();
                x.run(15 + draw * 20, draw * 5 + 3);
                Judged.yes("run " + draw + " behind another one of " + text, ran(x, draw).equals(due.get(draw)));
            }
        }
    }

    private static List<Integer> ran(ThreadJudge x, int draw) {
        List<Integer> all = new ArrayList<>();
        x.begin();
        for (int part = 0; part < 6; part++) {
            all.add(x.run(14, draw + part));
            for (int t = 0; t < x.count(19); t++) {
                for (int what = 0; what < 5; what++) {
                    all.add(x.state(t, what));
                }
                for (int place = 0; place < 3; place++) {
                    all.add(x.local(t, place));
                }
            }
            for (int what = 17; what < 25; what++) {
                all.add(x.count(what));
            }
        }
        for (int n = 0; n < Math.min(12, x.count(18)); n++) {
            for (int what = 1; what < 5; what++) {
                all.add(x.thing(n, what));
            }
            all.add(x.value(n, 2));
        }
        for (int k = 0; k < 4; k++) {
            all.add(x.clash(k, 0));
            all.add(x.clash(k, 1));
        }
        return all;
    }

    /** What was noted in a run that ended before is not noted in the next one. */
    private static void hooksAgain() {
        ThreadJudge x = Judged.loaded("class T extends Thread { static volatile field int n; method void run() { push 1; putstatic T.n; return; } } class U extends Thread { method void run() { return; } } " + Judged.main("", "new U; new T; virtual void Thread.start(); getstatic T.n; ifne L; pop; return; L: call void Runtime.hook(Thread); push 5; pop; return;"));
        x.begin();
        for (int t : new int[] {0, 0, 0, 1, 1, 0, 0, 0}) {
            Judged.due("step", x.step(t), 1);
        }
        Judged.due("noted, not begun", x.count(19), 2);
        x.begin();
        for (int t : new int[] {0, 0, 0, 0, 0, 0, 0, 1, 1, 1}) {
            Judged.due("step", x.step(t), 1);
        }
        Judged.due("all are ended", x.state(0, 0) * 10 + x.state(1, 0), 44);
        Judged.due("none was noted", x.count(19), 2);
        Judged.due("none goes on", x.run(10, 1), 0);
    }

    /** Behind an analysis that found knots: another text, of the same instructions but for what is wanted, has none. */
    private static void knotsAgain() {
        String two = "class Main { static field Object a; static field Object b; static method void one() { getstatic Main.a; enter; @ null; exit; return; } static method void two() { getstatic Main.b; enter; # null; exit; return; } "
            + "static method void main() { new Object; putstatic Main.a; new Object; putstatic Main.b; new Thread; virtual void Thread.start(); call void Main.one(); call void Main.two(); return; } }";
        String[] lines = {"getstatic Main.a; enter; null; exit;", "getstatic Main.b; enter; null; exit;", "getstatic Main.a; virtual void Object.notify(); null; pop;", "null; pop; null; pop;", "getstatic Main.a; virtual void Object.wait(); null; pop;", "getstatic Main.b; virtual void Object.wait(); null; pop;"};
        for (int first = 0; first < lines.length; first++) {
            for (int second = 0; second < lines.length; second++) {
                String text = two.replace("@", lines[first]).replace("#", lines[second]);
                boolean ab = first == 1 || first == 5;
                boolean ba = second == 0 || second == 4;
                ThreadJudge x = Judged.of(two.replace("@", lines[1]).replace("#", lines[0]));
                x.load();
                for (int policy = 0; policy < 2; policy++) {
                    x.analyse(policy, 300);
                    Judged.due("both orders", x.count(13), 2);
                }
                x.clear();
                Judged.feed(x, text);
                Judged.due("load", x.load(), 0);
                x.analyse(0, 300);
                Judged.due("behind it " + text, x.count(13), ab && ba ? 2 : 0);
                Judged.due("first", x.knot(0, 0), ab && ba ? 17 : -1);
            }
        }
    }

    /** What was before, behind, or gone through in a text analysed before is so no more: texts of the same instructions but for some that lead elsewhere. */
    private static void parallelAgain() {
        StringBuilder many = new StringBuilder();
        StringBuilder calls = new StringBuilder();
        for (int k = 0; k < 12; k++) {
            many.append("static method void a").append(k).append("() { return; } ");
            calls.append("call void A.a").append(k).append("(); ");
        }
        String classes = "class T extends Thread { static field int n; method void run() { getstatic T.n; pop; return; } } class A { " + many + "static method void m() { push 1; putstatic T.n; return; } } ";
        String[] mains = new String[16];
        for (int k = 0; k < mains.length; k++) {
            String m = "call void A.m(); ";
            String a = "call void A.a0(); ";
            mains[k] = calls + ((k & 1) != 0 ? m : a) + "new T; dup; store 0; virtual void Thread.start(); " + ((k & 2) != 0 ? m : a)
                + ((k & 8) != 0 ? "push 1; ifeq L; " : "push 1; pop; ") + "load 0; virtual void Thread.join(); L: " + ((k & 4) != 0 ? m : a) + "return;";
        }
        for (int before = 0; before < mains.length; before++) {
            for (int k = 0; k < mains.length; k++) {
                ThreadJudge x = Judged.loaded(Judged.main(classes, mains[before]));
                x.analyse(0, 300);
                x.clear();
                Judged.feed(x, Judged.main(classes, mains[k]));
                Judged.due("load", x.load(), 0);
                x.analyse(0, 300);
                // run's 14 .., m's behind those of a0 .. a11, main's
                int m = 14 + 3 + 12;
                boolean meets = (k & 2) != 0 || (k & 12) == 12 || (k & 5) == 5;
                Judged.due("m's with run's, of " + k + " behind " + before, x.parallel(m + 1, 14), meets ? 1 : 0);
                Judged.due("races", x.count(12), meets ? 1 : 0);
                int main = m + 3;
                int size = x.count(6) - main;
                for (int i = 0; i < size; i++) {
                    boolean ahead = i < 12 + 5;
                    boolean behind = (k & 8) == 0 && i >= size - 2;
                    Judged.due("main's " + i + " of " + k + " behind " + before, x.parallel(14, main + i), ahead || behind ? 0 : 1);
                }
            }
        }
    }

    /** The first answer that is not as due; - 1 without. */
    private static int first(List<int[]> asked, List<Integer> got, List<Integer> due) {
        for (int k = 0; k < due.size(); k++) {
            if (!got.get(k).equals(due.get(k))) {
                System.out.println(asked.get(k)[0] + " " + asked.get(k)[1] + " " + asked.get(k)[2] + " " + asked.get(k)[3]);
                return k;
            }
        }
        return -1;
    }

    /** The answers to all questions, each 300 of them on a new object that analysed another text before (by a policy; none, if that is - 1; from 4 on with one instance granted). */
    private static List<Integer> answers(List<int[]> asked, String text, int policy, String before, int other) {
        List<Integer> all = new ArrayList<>();
        ThreadJudge x = null;
        for (int k = 0; k < asked.size(); k++) {
            if (k % 300 == 0) {
                x = new ThreadJudge();
                if (other >= 0) {
                    Judged.feed(x, before);
                    x.load();
                    x.analyse(other % 4, other < 4 ? 300 : 1);
                    x.begin();
                    x.run(40, k);
                    if (!before.equals(text)) {
                        x.clear();
                    }
                }
                if (x.count(2) == 0) {
                    Judged.feed(x, text);
                    x.load();
                }
                x.analyse(policy, 300);
            }
            all.add(answer(x, asked.get(k)));
        }
        return all;
    }

    private static int answer(ThreadJudge x, int[] q) {
        switch (q[0]) {
            case 0: return x.count(q[1]);
            case 1: return x.holds(q[1], q[2], q[3]);
            case 2: return x.object(q[1], q[2]);
            case 3: return x.field(q[1], q[2], q[3]);
            case 4: return x.calls(q[1], q[2] == 1, q[3]);
            case 5: return x.reached(q[1], q[2]);
            case 6: return x.begins(q[1]);
            case 7: return x.thread(q[1], q[2]);
            case 8: return x.parallel(q[1], q[2]);
            case 9: return x.held(q[1], q[2] == 1, q[3]);
            case 10: return x.race(q[1], q[2]);
            case 11: return x.knot(q[1], q[2]);
            case 12: return x.waits(q[1], q[2]);
            case 13: return x.unresolved(q[1]);
            default: return x.way(q[1], q[2]);
        }
    }

    private static void add(List<int[]> all, int... q) {
        all.add(new int[] {q[0], q.length > 1 ? q[1] : 0, q.length > 2 ? q[2] : 0, q.length > 3 ? q[3] : 0});
    }

    private static List<int[]> questions(String text, int policy) {
        ThreadJudge x = Judged.loaded(text);
        x.analyse(policy, 300);
        List<int[]> all = new ArrayList<>();
        for (int what = 0; what < 25; what++) {
            add(all, 0, what);
        }
        for (int i = 14; i < x.count(6); i++) {
            for (int place = 0; place < 10 + Math.max(0, x.instruction(i, 3)); place++) {
                if (place < 4 || place > 9) {
                    for (int k = -1; k < 3; k++) {
                        add(all, 1, i, place, k);
                    }
                }
            }
            for (int k = -1; k < 2; k++) {
                add(all, 4, i, 0, k);
                add(all, 4, i, 1, k);
                add(all, 9, i, 0, k);
                add(all, 9, i, 1, k);
            }
            for (int j = i; j < x.count(6); j += 3) {
                add(all, 8, i, j);
            }
        }
        for (int o = 0; o <= x.count(9); o++) {
            for (int what = 0; what < 6; what++) {
                add(all, 2, o, what);
            }
            for (int f = -3; f < x.count(4); f++) {
                add(all, 3, o, f, -1);
                add(all, 3, o, f, 0);
            }
        }
        for (int m = 0; m < x.count(5); m++) {
            add(all, 5, m, 0);
            add(all, 5, m, 1);
            for (int k = -1; k < 3; k++) {
                add(all, 14, m, k);
            }
        }
        for (int c = 0; c < x.count(3); c++) {
            add(all, 6, c);
        }
        for (int t = 0; t <= x.count(10); t++) {
            for (int what = 0; what < 3; what++) {
                add(all, 7, t, what);
            }
        }
        for (int k = 0; k < 12; k++) {
            for (int what = 0; what < 3; what++) {
                add(all, 10, k, what);
                add(all, 11, k, what);
                add(all, 12, k, what);
            }
            add(all, 13, k);
        }
        return all;
    }
}
