/** What is gone answers BAD, call by call: behind load() without and with a fault, behind analyse(), and a run behind begin(). */
public final class GoneTest {
    private static final String TEXT = "excluded class X { static method void x() { return; } } class S { static field int n; static field Object o; field S s; } interface F { abstract method void f(); } "
        + "class T extends Thread { static method void <clinit>() { return; } method void run() { push 1; putstatic S.n; string \"b\"; enter; string \"a\"; enter; null; exit; null; exit; return; } } "
        + "class Main { static method void l(Object) { return; } static method void main() { new T; virtual void Thread.start(); push 2; putstatic S.n; push 7; call void Out.print(int); call void X.x(); new S; dup; dup; dup; put S.s; putstatic S.o; lambda F void Main.l(Object); pop; "
        + "string \"a\"; enter; string \"a\"; virtual void Object.wait(); string \"b\"; enter; null; exit; null; exit; return; } }";

    /** A call, all of whose numbers are told by one. */
    private interface Call {
        int at(ThreadJudge x, int k);
    }

    private static final String[] MAY = {"holds", "object", "field", "calls", "starts", "reached", "begins", "thread", "parallel", "surely held", "maybe held", "race", "knot", "waits", "unresolved", "way"};
    private static final Call[] MAY_CALLS = {
        (x, k) -> x.holds(k / 40, k / 2 % 20, k % 2 - 1), (x, k) -> x.object(k / 6, k % 6), (x, k) -> x.field(k / 26, k / 2 % 13 - 7, k % 2 - 1),
        (x, k) -> x.calls(k / 2, false, k % 2 - 1), (x, k) -> x.calls(k / 2, true, k % 2 - 1), (x, k) -> x.reached(k / 2, k % 2), (x, k) -> x.begins(k), (x, k) -> x.thread(k / 3, k % 3),
        (x, k) -> x.parallel(k / 50, k % 50), (x, k) -> x.held(k / 2, true, k % 2 - 1), (x, k) -> x.held(k / 2, false, k % 2 - 1), (x, k) -> x.race(k / 3, k % 3),
        (x, k) -> x.knot(k / 3, k % 3), (x, k) -> x.waits(k / 2, k % 2), (x, k) -> x.unresolved(k), (x, k) -> x.way(k / 3, k % 3 - 1)};
    private static final String[] RUN = {"state", "local", "thing", "value", "said", "clash"};
    private static final Call[] RUN_CALLS = {
        (x, k) -> x.state(k / 5, k % 5), (x, k) -> x.local(k / 18, k % 18), (x, k) -> x.thing(k / 5, k % 5), (x, k) -> x.value(k / 6, k % 6 - 2), (x, k) -> x.said(k), (x, k) -> x.clash(k / 2, k % 2)};

    private GoneTest() {
    }

    public static void main(String[] args) {
        behindLoad();
        behindAnalyse();
        behindBegin();
        Judged.end();
    }

    private static ThreadJudge whole() {
        ThreadJudge x = Judged.loaded(TEXT);
        x.analyse(1, 300);
        x.begin();
        int steps = 0;
        for (int t = 0; t < 5 || steps < 300 && x.step(t % 2) > 0; t++) {
            steps += t < 5 ? x.step(0) : 1;
        }
        x.run(200, 1);
        Judged.due("answer", Judged.ask(x, "all"), x.count(5));
        return x;
    }

    /** How many of the rows of a call's numbers are answered otherwise than BAD. */
    private static int answered(ThreadJudge x, Call call) {
        int n = 0;
        for (int k = 0; k < 2500; k++) {
            n += call.at(x, k) == -1 ? 0 : 1;
        }
        return n;
    }

    private static void all(String when, ThreadJudge x, String[] names, Call[] calls, boolean there) {
        for (int k = 0; k < calls.length; k++) {
            int n = answered(x, calls[k]);
            Judged.due(names[k] + " " + when + " (" + n + ")", n > 0 ? 1 : 0, there ? 1 : 0);
        }
    }

    /** "What was analysed, the run, the last answer are gone in both cases." and "At any fault nothing is at hand." */
    private static void behindLoad() {
        for (int fault = 0; fault < 2; fault++) {
            ThreadJudge x = whole();
            all("ahead of load", x, MAY, MAY_CALLS, true);
            all("ahead of load", x, RUN, RUN_CALLS, true);
            Judged.due("answered", x.answered(0), 0);
            x.change(TEXT.length() - 1, fault > 0 ? '?' : '}');
            Judged.due("load", x.load(), fault);
            all("behind load", x, MAY, MAY_CALLS, false);
            all("behind load", x, RUN, RUN_CALLS, false);
            Judged.due("answered behind load", x.answered(0), -1);
            Judged.due("answer behind load", Judged.ask(x, "all"), -1000);
            Judged.due("step behind load", x.step(0), -1);
            Judged.due("run behind load", x.run(1, 0), -1);
            Judged.yes("foreseen behind load", x.foreseen());
            for (int what = 8; what < 25; what++) {
                Judged.due("count behind load " + what, x.count(what), 0);
            }
            all("behind a run that was refused", x, RUN, RUN_CALLS, false);
            if (fault > 0) {
                Judged.due("analyse", x.analyse(0, 300), -1);
                Judged.yes("begin", !x.begin());
                all("behind what was refused", x, MAY, MAY_CALLS, false);
                all("behind what was refused", x, RUN, RUN_CALLS, false);
                nothingAtHand(x);
                continue;
            }
            // a run that is not behind an analysis brings none back
            Judged.yes("begin", x.begin());
            all("behind load and begin", x, MAY, MAY_CALLS, false);
        }
    }

    private static void nothingAtHand(ThreadJudge x) {
        Call[] calls = {(y, k) -> y.classOf(k / 7, k % 7), (y, k) -> y.method(k / 7, k % 7), (y, k) -> y.instruction(k / 4, k % 4),
            (y, k) -> y.below(k / 25, k % 25), (y, k) -> y.selected(k / 25, k % 25), (y, k) -> y.kind(k / 100, k / 10 % 10, k % 10 - 5)};
        String[] names = {"classOf", "method", "instruction", "below", "selected", "kind"};
        all("of a fault", x, names, calls, false);
        x.change(TEXT.length() - 1, '}');
        Judged.due("load", x.load(), 0);
        all("without a fault", x, names, calls, true);
    }

    /** "What was analysed before, and the run, are gone." (the last answer stays) */
    private static void behindAnalyse() {
        ThreadJudge x = whole();
        Judged.due("analyse", x.analyse(4, 300), -1);
        Judged.due("analyse", x.analyse(0, 301), -1);
        all("behind what was refused", x, RUN, RUN_CALLS, true);
        all("behind what was refused", x, MAY, MAY_CALLS, true);
        x.analyse(0, 300);
        all("behind analyse", x, RUN, RUN_CALLS, false);
        all("behind analyse", x, MAY, MAY_CALLS, true);
        Judged.due("step behind analyse", x.step(0), -1);
        Judged.due("run behind analyse", x.run(1, 0), -1);
        for (int what = 17; what < 25; what++) {
            Judged.due("count behind analyse " + what, x.count(what), 0);
        }
        Judged.due("answered", x.answered(x.count(5) - 1), x.count(5) - 1);
    }

    /** "A run begins." What the one before did is gone; what was analysed stays. */
    private static void behindBegin() {
        ThreadJudge x = whole();
        x.begin();
        all("behind begin", x, MAY, MAY_CALLS, true);
        String[] names = {"thing", "said", "clash"};
        Call[] calls = {RUN_CALLS[2], RUN_CALLS[4], RUN_CALLS[5]};
        all("behind begin", x, names, calls, false);
        Judged.due("the second thread", x.state(1, 0), -1);
        Judged.due("a static field", x.value(0, 1), 0);
        for (int what = 17; what < 25; what++) {
            Judged.due("count behind begin " + what, x.count(what), what == 19 ? 1 : what == 23 ? 2 : 0);
        }
    }
}
