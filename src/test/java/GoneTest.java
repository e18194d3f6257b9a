/** What is gone answers BAD, call by call: behind load() without and with a fault, behind analyse(), and a run behind begin(). */
public final class GoneTest {
    private static final String TEXT = "excluded class X { static method void x() { return; } } class S { static field int n; static field Object o; field S s; } interface F { abstract method void f(); } "
        + "class T extends Thread { static method void <clinit>() { return; } method void run() { push 1; putstatic S.n; string \"b\"; enter; string \"a\"; enter; null; exit; null; exit; return; } } "
        + "class Main { static method void l(Object) { return; } static method void main() { new T; virtual void Thread.start(); push 2; putstatic S.n; push 7; call void Out.print(int); call void X.x(); new S; dup; dup; dup; put S.s; putstatic S.o; lambda F void Main.l(Object); pop; "
        + "string \"a\"; enter; string \"a\"; virtual void Object.wait(); string \"b\"; enter; null; exit; null; exit; return; } }";

    /** A call, all of whose numbers are told by one. */
    private interface Call {
        int at(ThreadJudge x, int k);
    }

    private static final String[] MAY = {"holds", "object", "field", "calls", "starts", "reached", "begins", "thread", "parallel", "surely held", "maybe held", "race", "knot", "waits", "unresolved", "way"};
    private static final Call[] MAY_CALLS = {
        (x, k) -> x.holds(14 + k / 6, k % 6 / 2 * 5, k % 2 - 1), (x, k) -> x.object(k / 6, k % 6), (x, k) -> x.field(k / 26, k / 2 % 13 - 7, k % 2 - 1),
        (x, k) -> x.calls(14 + k / 2, false, k % 2 - 1), (x, k) -> x.calls(14 + k / 2, true, k % 2 - 1), (x, k) -> x.reached(k / 2, k % 2), (x, k) -> x.begins(k), (x, k) -> x.thread(k / 3, k % 3),
        (x, k) -> x.parallel(14 + k / 40, 14 + k % 40), (x, k) -> x.held(14 + k / 2, true, k % 2 - 1), (x, k) -> x.held(14 + k / 2, false, k % 2 - 1), (x, k) -> x.race(k / 3, k % 3),
        (x, k) -> x.knot(k / 3, k % 3), (x, k) -> x.waits(k / 2, k % 2), (x, k) -> x.unresolved(k), (x, k) -> x.way(k / 3, k % 3 - 1)};
    private static final String[] RUN = {"state", "local", "thing", "value", "said", "clash"};
    private static final Call[] RUN_CALLS = {
        (x, k) -> x.state(k / 5, k % 5), (x, k) -> x.local(k / 18, k % 18), (x, k) -> x.thing(k / 5, k % 5), (x, k) -> x.value(k / 6, k % 6 - 2), (x, k) -> x.said(k), (x, k) -> x.clash(k / 2, k % 2)};
    private static final String[] HAND = {"classOf", "method", "instruction", "below", "selected", "kind"};
    private static final Call[] HAND_CALLS = {
        (x, k) -> x.classOf(k / 7, k % 7), (x, k) -> x.method(k / 7, k % 7), (x, k) -> x.instruction(k / 4, k % 4),
        (x, k) -> x.below(k / 25, k % 25), (x, k) -> x.selected(k / 25, k % 25), (x, k) -> x.kind(14 + k / 50, k / 10 % 5, k % 10 - 5)};

    /** What is done to an object behind an analysis, a run and an answer; what its calls answer then is looked at. */
    private interface Doing {
        void to(ThreadJudge x);
    }

    private GoneTest() {
    }

    public static void main(String[] args) {
        behindLoad();
        behindAnalyse();
        behindBegin();
        Judged.end();
    }

    private static ThreadJudge whole() {
        ThreadJudge x = Judged.loaded(TEXT);
        x.analyse(1, 300);
        x.begin();
        x.run(60, 3);
        Judged.due("answer", Judged.ask(x, "all"), x.count(5));
        return x;
    }

    /** Whether some of the rows of each call's numbers are answered otherwise than BAD; each call on an object of its own. */
    private static void all(String when, String[] names, Call[] calls, boolean there, Doing doing) {
        for (int c = 0; c < calls.length; c++) {
            ThreadJudge x = whole();
            doing.to(x);
            int n = 0;
            for (int k = 0; k < 240; k++) {
                n += calls[c].at(x, k) == -1 ? 0 : 1;
            }
            Judged.due(names[c] + " " + when + " (" + n + ")", n > 0 ? 1 : 0, there ? 1 : 0);
        }
    }

    private static void load(ThreadJudge x, int fault) {
        x.change(TEXT.length() - 1, fault > 0 ? '?' : '}');
        Judged.due("load", x.load(), fault);
    }

    /** "What was analysed, the run, the last answer are gone in both cases." and "At any fault nothing is at hand." */
    private static void behindLoad() {
        all("ahead of load", MAY, MAY_CALLS, true, x -> { });
        all("ahead of load", RUN, RUN_CALLS, true, x -> { });
        all("ahead of load", HAND, HAND_CALLS, true, x -> { });
        for (int f = 0; f < 2; f++) {
            int fault = f;
            String when = "behind load " + fault;
            all(when, MAY, MAY_CALLS, false, x -> load(x, fault));
            all(when, RUN, RUN_CALLS, false, x -> load(x, fault));
            all(when, HAND, HAND_CALLS, fault == 0, x -> load(x, fault));
            all(when + " and what is refused", RUN, RUN_CALLS, false, x -> {
                load(x, fault);
                Judged.due("step", x.step(0), -1);
                Judged.due("run", x.run(1, 0), -1);
            });
            ThreadJudge x = whole();
            Judged.due("answered", x.answered(0), 0);
            load(x, fault);
            Judged.due("answered " + when, x.answered(0), -1);
            Judged.due("answer " + when, Judged.ask(x, "all"), -1000);
            Judged.yes("foreseen " + when, x.foreseen());
            for (int what = 8; what < 25; what++) {
                Judged.due("count " + what + " " + when, x.count(what), 0);
            }
            for (int what = 3; what < 8; what++) {
                Judged.yes("count " + what + " " + when, x.count(what) > 0 == (fault == 0));
            }
        }
        // at a fault nothing can be analysed or run; without one a run brings no analysis back, nor an analysis a run
        all("behind a fault", MAY, MAY_CALLS, false, x -> {
            load(x, 1);
            Judged.due("analyse", x.analyse(0, 300), -1);
        });
        all("behind a fault", RUN, RUN_CALLS, false, x -> {
            load(x, 1);
            Judged.yes("begin", !x.begin());
        });
        all("behind load and begin", MAY, MAY_CALLS, false, x -> {
            load(x, 0);
            Judged.yes("begin", x.begin());
        });
        all("behind load and analyse", RUN, RUN_CALLS, false, x -> {
            load(x, 0);
            x.analyse(0, 300);
        });
        all("behind a fault that was mended", HAND, HAND_CALLS, true, x -> {
            load(x, 1);
            load(x, 0);
        });
        all("behind a fault that was mended", MAY, MAY_CALLS, false, x -> {
            load(x, 1);
            load(x, 0);
        });
    }

    /** "What was analysed before, and the run, are gone." (the last answer stays) */
    private static void behindAnalyse() {
        Doing refused = x -> {
            Judged.due("analyse", x.analyse(4, 300), -1);
            Judged.due("analyse", x.analyse(0, 301), -1);
            Judged.due("analyse", x.analyse(-1, 300), -1);
            Judged.due("analyse", x.analyse(0, 0), -1);
        };
        all("behind what was refused", RUN, RUN_CALLS, true, refused);
        all("behind what was refused", MAY, MAY_CALLS, true, refused);
        all("behind analyse", RUN, RUN_CALLS, false, x -> x.analyse(0, 300));
        all("behind analyse", MAY, MAY_CALLS, true, x -> x.analyse(0, 300));
        ThreadJudge x = whole();
        x.analyse(0, 300);
        Judged.due("step behind analyse", x.step(0), -1);
        Judged.due("run behind analyse", x.run(1, 0), -1);
        for (int what = 17; what < 25; what++) {
            Judged.due("count behind analyse " + what, x.count(what), 0);
        }
        Judged.due("answered", x.answered(x.count(5) - 1), x.count(5) - 1);
    }

    /** "A run begins." What the one before did is gone; what was analysed stays. */
    private static void behindBegin() {
        all("behind begin", MAY, MAY_CALLS, true, x -> x.begin());
        String[] names = {"thing", "said", "clash"};
        Call[] calls = {RUN_CALLS[2], RUN_CALLS[4], RUN_CALLS[5]};
        all("behind begin", names, calls, false, x -> x.begin());
        ThreadJudge x = whole();
        x.begin();
        Judged.due("the second thread", x.state(1, 0), -1);
        Judged.due("a static field", x.value(0, 1), 0);
        for (int n = 0; n < 4; n++) {
            for (int f = -2; f < 4; f++) {
                if (f != 1 && f != 2) {
                    Judged.due("no thing " + n + ", " + f, x.value(n, f), -1);
                }
            }
        }
        for (int what = 17; what < 25; what++) {
            Judged.due("count behind begin " + what, x.count(what), what == 19 ? 1 : what == 23 ? 2 : 0);
        }
        Judged.due("answered", x.answered(x.count(5) - 1), x.count(5) - 1);
        // things of a run before leave nothing to those of the next
        x = Judged.loaded("class K { static volatile field int n; field K k; field int m; } " + Judged.main("", "getstatic K.n; ifne L; push 1; putstatic K.n; push 5; array K; dup; push 0; new K; setelement; enter; return; L: return;").replace("enter; return", "enter; M: goto M"));
        x.begin();
        x.run(30, 0);
        Judged.due("an array of five", x.thing(0, 2), 5);
        Judged.due("entered", x.thing(0, 3) * 10 + x.thing(0, 4), 10);
        Judged.due("its first", x.value(0, -1), 1);
        x.clear();
        Judged.feed(x, "class K { field K k; field int m; } " + Judged.main("", "new K; pop; push 1; array int; pop; new K; store 1; return;"));
        Judged.due("load", x.load(), 0);
        x.begin();
        x.run(30, 0);
        Judged.due("no array", x.thing(0, 2), 0);
        Judged.due("not entered", x.thing(0, 3), 0);
        Judged.due("by none", x.thing(0, 4), -1);
        Judged.due("no element", x.value(0, -1), -1);
        Judged.due("null", x.value(0, 1), -1);
        Judged.due("0", x.value(0, 2), 0);
        Judged.due("one element", x.thing(1, 2), 1);
        Judged.due("which is 0", x.value(1, -1), 0);
        Judged.due("no second", x.value(1, -2), -1);
    }
}
