/** The promises 1 to 15 and 17 to 21 themselves: what each call answers, and where it answers BAD. */
public final class PromisesTest {
    private static final int[] WRONG = {Integer.MIN_VALUE, -1000, Integer.MAX_VALUE};
    private static final String TEXT = "interface F { abstract method void f(); } class K { field int n; field Object o; static field Object s; static method void <clinit>() { return; } method void m(int, K) { return; pop; } static synchronized method void w() { getstatic K.s; putstatic K.s; return; } } "
        + "class T extends Thread { method void run() { call void K.w(); return; } } class Main { static method void main() { new K; store 1; load 1; string \"a\"; put K.o; load 1; putstatic K.s; new T; virtual void Thread.start(); call void K.w(); push 3; array K; store 2; load 2; push 1; load 1; setelement; push 7; call void Out.print(int); string \"a\"; lambda F void K.l(Object); return; } }";
    private static final String TEXT_L = TEXT.replace("static method void <clinit>", "static method void l(Object) { return; } static method void <clinit>");

    /** A call with one number, for rows of calls. */
    private interface Call {
        int at(int k);
    }

    public static void main(String[] args) {
        aNewObject();
        feed();
        end();
        change();
        clear();
        whatIsAtHandStays();
        load();
        count();
        classOf();
        method();
        instruction();
        below();
        selected();
        selectedInit();
        kind();
        analyse();
        holds();
        object();
        field();
        fieldOfAnyMake();
        calls();
        reached();
        begins();
        thread();
        parallelAndHeld();
        raceKnotWaits();
        unresolved();
        way();
        waysInOrder();
        ask();
        begin();
        step();
        run();
        draws();
        state();
        stateAnew();
        local();
        thing();
        value();
        saidAndClash();
        Judged.end();
    }

    private static ThreadJudge loaded() {
        return Judged.loaded(TEXT_L);
    }

    private static ThreadJudge analysed() {
        ThreadJudge x = loaded();
        x.analyse(0, 300);
        return x;
    }

    private static ThreadJudge ran() {
        ThreadJudge x = analysed();
        x.begin();
        x.run(2000, 5);
        return x;
    }

    /** BAD for numbers below 0 (or another bound), of the bound or above, and far away. */
    private static void bad(String what, Call call, int from, int to) {
        Judged.due(what + " below", call.at(from - 1), -1);
        Judged.due(what + " above", call.at(to), -1);
        Judged.due(what + " far above", call.at(to + 1000), -1);
        for (int far : WRONG) {
            Judged.due(what + " " + far, call.at(far), -1);
        }
    }

    // ---- 1 to 4

    /** "No text, nothing at hand, no question." */
    private static void aNewObject() {
        ThreadJudge x = new ThreadJudge();
        Judged.due("BAD", ThreadJudge.BAD, -1);
        for (int what = 0; what < 25; what++) {
            Judged.due("count(" + what + ")", x.count(what), what == 1 ? -1 : 0);
        }
        Judged.due("no byte", x.change(0, 65), -1);
        Judged.due("nothing to clear", x.clear(), 0);
        Judged.due("no class", x.classOf(0, 1), -1);
        Judged.due("no method", x.method(0, 1), -1);
        Judged.due("no instruction", x.instruction(0, 0), -1);
        Judged.due("nothing below", x.below(0, 0), -1);
        Judged.due("nothing selected", x.selected(0, 0), -1);
        Judged.due("no kind", x.kind(0, 0, 0), -1);
        Judged.due("no analysis", x.analyse(0, 300), -1);
        nothingAnalysed(x);
        Judged.yes("no begin", !x.begin());
        noRun(x);
        Judged.due("no answer", x.answer(), -1000);
        Judged.due("nothing answered", x.answered(0), -1);
        Judged.due("the first sign", x.ask('a'), 1);
        Judged.yes("foreseen", x.foreseen());
        // two objects have nothing in common
        ThreadJudge y = Judged.loaded(TEXT_L);
        Judged.due("nothing at hand here", x.count(3) + x.count(2), 0);
        Judged.due("but there", y.count(3), 23);
    }

    private static void nothingAnalysed(ThreadJudge x) {
        for (int k = -1; k < 1; k++) {
            Judged.due("holds", x.holds(0, 0, k), -1);
            Judged.due("field", x.field(0, 0, k), -1);
            Judged.due("calls", x.calls(0, false, k), -1);
            Judged.due("starts", x.calls(0, true, k), -1);
            Judged.due("held", x.held(0, true, k), -1);
            Judged.due("may be held", x.held(0, false, k), -1);
            Judged.due("way", x.way(0, k), -1);
        }
        for (int what = 0; what < 3; what++) {
            Judged.due("object", x.object(0, what), -1);
            Judged.due("reached", x.reached(0, what), -1);
            Judged.due("thread", x.thread(0, what), -1);
            Judged.due("race", x.race(0, what), -1);
            Judged.due("knot", x.knot(0, what), -1);
            Judged.due("waits", x.waits(0, what), -1);
        }
        Judged.due("begins", x.begins(0), -1);
        Judged.due("parallel", x.parallel(0, 0), -1);
        Judged.due("unresolved", x.unresolved(0), -1);
    }

    private static void noRun(ThreadJudge x) {
        Judged.due("step", x.step(0), -1);
        Judged.due("run", x.run(10, 1), -1);
        Judged.due("state", x.state(0, 0), -1);
        Judged.due("local", x.local(0, 0), -1);
        Judged.due("thing", x.thing(0, 0), -1);
        Judged.due("value", x.value(0, 0), -1);
        Judged.due("static value", x.value(0, 3), -1);
        Judged.due("said", x.said(0), -1);
        Judged.due("clash", x.clash(0, 0), -1);
    }

    /** "Twenty bytes come behind the text, the highest of each number first: how many it has. BAD, changing nothing: there would be more than 12,000." */
    private static void feed() {
        ThreadJudge x = new ThreadJudge();
        Judged.due("twenty", x.feed(0x01020304, 0x7f000000, -1, 0x80000001, 0x00ff00fe), 20);
        int[] due = {1, 2, 3, 4, 127, 0, 0, 0, 255, 255, 255, 255, 128, 0, 0, 1, 0, 255, 0, 254};
        for (int k = 0; k < 20; k++) {
            Judged.due("byte " + k, x.change(k, due[k]), due[k]);
        }
        Judged.due("forty", x.feed(0, 0, 0, 0, 5), 40);
        Judged.due("behind", x.change(39, 5), 5);
        Judged.due("first stays", x.change(0, 1), 1);
        Judged.due("count", x.count(2), 40);
    }

    /** "Of the last twenty bytes of the text, by whichever calls they came, the first n (0 .. 20) stay: how many it has. BAD: another n, or fewer than twenty are there." */
    private static void end() {
        for (int n = 0; n <= 20; n++) {
            ThreadJudge x = new ThreadJudge();
            x.feed(0x61626364, 0x65666768, 0x696a6b6c, 0x6d6e6f70, 0x71727374);
            Judged.due("end(" + n + ")", x.end(n), n);
            Judged.due("count", x.count(2), n);
            for (int k = 0; k < n; k++) {
                Judged.due("stays", x.change(k, 0x61 + k), 0x61 + k);
            }
            Judged.due("is gone", x.change(n, 1), -1);
            if (n < 20) {
                Judged.due("fewer than twenty", x.end(0), -1);
                Judged.due("nor all", x.end(20), -1);
                Judged.due("changes nothing", x.count(2), n);
            }
            for (int wrong : new int[] {-1, 21, Integer.MIN_VALUE, Integer.MAX_VALUE, -20}) {
                Judged.due("end(" + wrong + ")", x.end(wrong), -1);
            }
            Judged.due("changes nothing", x.count(2), n);
        }
        ThreadJudge x = new ThreadJudge();
        Judged.due("of nothing", x.end(0), -1);
        x.feed(1, 2, 3, 4, 5);
        x.end(13);
        x.feed(6, 7, 8, 9, 10);
        Judged.due("of two calls", x.end(4), 17);
        Judged.due("of one call", x.change(12, 0), 4 - 4);
        Judged.due("of the other", x.change(16, 6), 6);
        Judged.due("fewer than twenty", x.end(4), -1);
        x.feed(1, 2, 3, 4, 5);
        Judged.due("all twenty", x.end(0), 17);
        x.feed(1, 2, 3, 4, 5);
        x.feed(1, 2, 3, 4, 5);
        Judged.due("again", x.end(0), 37);
        Judged.due("and again", x.end(0), 17);
        Judged.due("not once more", x.end(0), -1);
    }

    /** "A byte of the text becomes another one (0 .. 255): what it was. BAD: there is none, or another number." */
    private static void change() {
        ThreadJudge x = new ThreadJudge();
        x.feed(0, 0, 0, 0, 0);
        x.end(7);
        bad("byte", k -> x.change(k, 65), 0, 7);
        bad("number", v -> x.change(3, v), 0, 256);
        for (int v = 0; v < 256; v += 51) {
            Judged.due("what it was", x.change(3, v), Math.max(0, v - 51));
        }
        Judged.due("0 to 255", x.change(6, 255), 0);
        Judged.due("back", x.change(6, 0), 255);
        Judged.due("the others stay", x.change(2, 0) + x.change(4, 0) + x.change(0, 0), 0);
        Judged.due("as long", x.count(2), 7);
    }

    /** "The text is empty: how many bytes it had." */
    private static void clear() {
        ThreadJudge x = Judged.of(TEXT_L);
        Judged.due("had", x.clear(), TEXT_L.length());
        Judged.due("has", x.count(2), 0);
        Judged.due("had none", x.clear(), 0);
        Judged.due("load", x.load(), 13);
        Judged.due("at 0", x.count(1), 0);
        Judged.due("from the beginning", x.feed(1, 2, 3, 4, 5), 20);
    }

    /** "(What is at hand stays, here and at all calls above.)" */
    private static void whatIsAtHandStays() {
        ThreadJudge x = ran();
        Judged.ask(x, "main");
        int sum = all(x);
        x.feed(1, 2, 3, 4, 5);
        Judged.due("behind feed", all(x), sum);
        x.end(3);
        Judged.due("behind end", all(x), sum);
        x.change(0, 33);
        Judged.due("behind change", all(x), sum);
        x.clear();
        Judged.due("behind clear", all(x), sum);
        Judged.due("the answer too", x.answered(0), x.count(5) - 1);
        Judged.due("the run goes on", x.step(0), 0);
    }

    private static int all(ThreadJudge x) {
        int sum = 0;
        for (int what = 3; what < 25; what++) {
            sum = sum * 31 + x.count(what);
        }
        return sum * 31 + x.classOf(20, 6) + x.holds(x.count(6) - 1, 1, 0) + x.state(0, 0) + x.thing(0, 0);
    }

    /** "The text, which stays, is read, linked and checked: 0, and its program is at hand; or the fault, and nothing is at hand. What was analysed, the run, the last answer are gone in both cases." */
    private static void load() {
        for (int fault = 0; fault < 2; fault++) {
            ThreadJudge x = ran();
            Judged.due("one method", Judged.ask(x, "main"), 1);
            Judged.yes("there is a run, an analysis", x.count(17) > 0 && x.count(8) > 0);
            x.ask('a');
            x.ask('l');
            if (fault > 0) {
                x.change(0, '?');
            }
            Judged.due("load", x.load(), fault);
            Judged.due("count(0)", x.count(0), fault);
            Judged.due("count(1)", x.count(1), fault > 0 ? 0 : -1);
            Judged.due("the text stays", x.count(2), TEXT_L.length());
            Judged.due("its byte", x.change(1, 'n'), 'n');
            Judged.due("classes", x.count(3), fault > 0 ? 0 : 23);
            for (int what = 8; what < 25; what++) {
                Judged.due("gone: " + what, x.count(what), 0);
            }
            nothingAnalysed(x);
            noRun(x);
            Judged.due("the answer is gone", x.answered(0), -1);
            Judged.yes("foreseen", x.foreseen());
            Judged.due("the question stays", x.ask('l'), 3);
            x.change(0, 'i');
            Judged.due("load anew", x.load(), 0);
            Judged.due("no fault", x.count(0), 0);
            Judged.due("no place", x.count(1), -1);
            x.analyse(0, 300);
            Judged.due("all", x.answer(), x.count(5));
        }
    }

    /** "BAD: another number." and each count */
    private static void count() {
        ThreadJudge x = ran();
        bad("count", x::count, 0, 25);
        int[] due = {0, -1, TEXT_L.length(), 23, 4, 24, x.count(6), 1};
        for (int what = 0; what < due.length; what++) {
            Judged.due("count(" + what + ")", x.count(what), due[what]);
        }
        Judged.due("threads that there may be", x.count(10), 2);
        Judged.due("not degraded", x.count(16), 0);
        Judged.due("threads", x.count(19), 2);
        Judged.due("said", x.count(20), 1);
        Judged.due("not full", x.count(24), 0);
        Judged.due("degraded", x.analyse(0, 1) > 1 ? x.count(16) : -1, 1);
        for (int what = 17; what < 25; what++) {
            Judged.due("of no run " + what, x.count(what), 0);
        }
    }

    // ---- 5 to 7

    /** "0 what it extends (BAD of Object), 1 whether it is an interface, 2 abstract, 3 excluded (1 or 0), 4 its first method's number, 5 how many it has, 6 its name's length. BAD: none such." */
    private static void classOf() {
        ThreadJudge x = Judged.loaded("abstract excluded class A { method void a() { return; } } excluded interface Iii { abstract method void i(); abstract method void j(); } class B23456789012345678901234 extends A implements Iii { static method void main() { return; } } class Main { static method void main() { return; } }");
        int[][] due = {{0, 0, 1, 1, 17, 1, 1}, {0, 1, 0, 1, 18, 2, 3}, {19, 0, 0, 0, 20, 1, 24}, {0, 0, 0, 0, 21, 1, 4}, {-1, 0, 0, 0, 0, 4, 6}};
        for (int k = 0; k < 5; k++) {
            int c = k < 4 ? 19 + k : 0;
            for (int what = 0; what < 7; what++) {
                Judged.due("classOf(" + c + ", " + what + ")", x.classOf(c, what), due[k][what]);
            }
            bad("what", what -> x.classOf(c, what), 0, 7);
        }
        for (int what = 0; what < 7; what++) {
            int w = what;
            bad("class", c -> x.classOf(c, w), 0, 23);
        }
    }

    /** "0 its class, 1 how many parameters, 2 1 static, 2 abstract, 4 synchronized, 8 native (together), 3 its first instruction (BAD without lines), 4 how many, 5 the place in the text of its name (BAD of the library), 6 its 'catch'es. BAD: none such." */
    private static void method() {
        String text = "abstract class A { abstract method int a(int, A[], int[]); static synchronized method void b(int, int, int, int, int, int) { X: push 1; pop; Y: return; H: pop; return; catch Cast X Y H; catch Cast X Y H; } synchronized method A c() { null; give; } static method void main() { return; } }";
        ThreadJudge x = Judged.loaded(text);
        int[][] due = {{19, 3, 2, -1, 0, text.indexOf("a(int"), 0}, {19, 6, 5, 14, 5, text.indexOf("b(int"), 2}, {19, 0, 4, 19, 2, text.indexOf("c()"), 0}, {19, 0, 1, 21, 1, text.indexOf("main"), 0}, {16, 1, 0, 2, 4, -1, 0}, {3, 1, 9, -1, 0, -1, 0}};
        int[] numbers = {17, 18, 19, 20, 10, 5};
        for (int k = 0; k < numbers.length; k++) {
            int m = numbers[k];
            for (int what = 0; what < 7; what++) {
                Judged.due("method(" + m + ", " + what + ")", x.method(m, what), due[k][what]);
            }
            bad("what", what -> x.method(m, what), 0, 7);
        }
        for (int what = 0; what < 7; what++) {
            int w = what;
            bad("method", m -> x.method(m, w), 0, 21);
        }
    }

    /** "0 its number in the table, 1 its method, 2 what it names .., 0 without, 3 the height of the stack before it (BAD, if it is not come to). BAD: none such. (of 5 the local; 0 may tell BAD, too.)" */
    private static void instruction() {
        String text = Judged.main("class A { field int f; field A g; static field int s; method void m() { return; } static method void c(int) { return; } static method void v() { return; } } class B extends A { } interface F { abstract method void f(); } ",
            "push -5; push 7; add; pop; string \"x\"; pop; string \"y\"; pop; string \"x\"; pop; null; store 9; load 9; pop; push 1; store 0; inc 0 8; L: new B; get B.g; push 3; put A.f; getstatic B.s; putstatic A.s; null; virtual void B.m(); new B; special void B.<init>(); push 1; call void B.c(int); lambda F void B.v(); pop; "
            + "push 1; array int; pop; push 1; array B; pop; null; cast B; cast Object; is B; ifeq L; null; cast B[]; cast Object; cast int[]; is B[]; ifne M; null; null; same L; goto L; M: return; swap;");
        ThreadJudge x = Judged.loaded(text);
        int m = x.method(x.count(5) - 1, 3);
        int[] ops = {0, 0, 6, 17, 1, 17, 1, 17, 1, 17, 2, 4, 3, 17, 0, 4, 5, 42, 38, 0, 39, 40, 41, 2, 49, 42, 50, 0, 51, 52, 17, 0, 43, 17, 0, 43, 17, 2, 47, 47, 48, 22, 2, 47, 47, 47, 48, 23, 2, 2, 34, 21, 56, 20};
        int[] names = {-5, 7, 0, 0, 0, 0, 1, 0, 0, 0, 0, 9, 9, 0, 1, 0, 0, 20, 2, 3, 1, 3, 3, 0, 17, 20, 0, 1, 18, 19, 0, 1, -2, 0, 1, -23, 0, 0, 20, 0, 20, m + 17, 0, -23, 0, -2, -23, m + 52, 0, 0, m + 17, m + 17, 0, 0};
        int[] heights = {0, 1, 2, 1, 0, 1, 0, 1, 0, 1, 0, 1, 0, 1, 0, 1, 0, 0, 1, 1, 2, 0, 1, 0, 1, 0, 1, 0, 1, 0, 1, 0, 1, 1, 0, 1, 1, 0, 1, 1, 1, 1, 0, 1, 1, 1, 1, 1, 0, 1, 2, 0, 0, -1};
        Judged.due("as many", x.count(6) - m, ops.length);
        for (int k = 0; k < ops.length; k++) {
            Judged.due("number of " + k, x.instruction(m + k, 0), ops[k]);
            Judged.due("method of " + k, x.instruction(m + k, 1), x.count(5) - 1);
            Judged.due("name of " + k, x.instruction(m + k, 2), names[k]);
            Judged.due("height of " + k, x.instruction(m + k, 3), heights[k]);
        }
        for (int what = 0; what < 4; what++) {
            int w = what;
            bad("instruction", i -> x.instruction(i, w), 0, x.count(6));
        }
        bad("what", what -> x.instruction(m, what), 0, 4);
    }

    /** "Whether a class is below another one (1 or 0). BAD: none such." */
    private static void below() {
        ThreadJudge x = loaded();
        bad("class", c -> x.below(c, 0), 0, 23);
        bad("other class", c -> x.below(0, c), 0, 23);
        Judged.due("itself", x.below(22, 22), 1);
        Judged.due("last below first", x.below(22, 0), 1);
        Judged.due("first below last", x.below(0, 22), 0);
    }

    /** "What is selected from a class for the name and parameters of a method. BAD: none such, none is selected." */
    private static void selected() {
        ThreadJudge x = loaded();
        bad("class", c -> x.selected(c, 1), 0, 23);
        bad("method", m -> x.selected(0, m), 0, 24);
        Judged.due("wait of the last", x.selected(22, 1), 1);
        Judged.due("none", x.selected(0, 23), -1);
        Judged.due("static is none", x.selected(22, 23), -1);
        Judged.due("abstract is none", x.selected(19, 17), -1);
    }

    private static void selectedInit() {
        ThreadJudge x = Judged.loaded(Judged.main("class A { method void <init>() { return; } } class B extends A { method void <init>(int) { return; } } class C extends B { } ", "return;"));
        Judged.due("<init> of its own", x.selected(19, 0), 17);
        Judged.due("of what it extends", x.selected(20, 0), 17);
        Judged.due("again and again", x.selected(21, 0), 17);
        Judged.due("by its own number", x.selected(21, 17), 17);
        Judged.due("Thread's", x.selected(16, 17), 9);
        Judged.due("with a parameter", x.selected(21, 18), 18);
        Judged.due("not Object's", x.selected(0, 18), -1);
    }

    /** "Whether the SET of a place of the stack or of a local before an instruction has a kind .. BAD: none such; it is not come to." */
    private static void kind() {
        ThreadJudge x = loaded();
        int m = x.method(20, 3);
        Judged.due("the method", x.method(20, 1), 2);
        bad("instruction", i -> x.kind(i, 0, 0), 0, x.count(6));
        bad("place", p -> x.kind(m, p, 0), 0, 10);
        bad("kind", c -> x.kind(m, 0, c), -5, 23);
        Judged.due("no kind - 1", x.kind(m, 0, -1), -1);
        Judged.due("receiver", x.kind(m, 0, 20), 1);
        Judged.due("int", x.kind(m, 1, -2), 1);
        Judged.due("K", x.kind(m, 2, 20), 1);
        Judged.due("NOTHING", x.kind(m, 3, -4), 1);
        Judged.due("no NULL", x.kind(m, 2, -3), 0);
        Judged.due("no array", x.kind(m, 2, -5), 0);
        Judged.due("not come to", x.kind(m + 1, 0, 20), -1);
        int main = x.method(23, 3);
        Judged.due("stack", x.kind(main + 1, 10, 20), 1);
        Judged.due("no second", x.kind(main + 1, 11, 20), -1);
        Judged.due("none before the first", x.kind(main, 10, 20), -1);
    }

    // ---- 8 to 15

    /** "Analyses by a policy 0 .. 3 and so many instances that are granted (1 .. 300): how many there are. BAD, changing nothing: other numbers, nothing at hand." .. "What was analysed before, and the run, are gone." */
    private static void analyse() {
        ThreadJudge x = ran();
        Judged.ask(x, "main");
        int steps = x.count(17);
        int instances = x.count(8);
        bad("policy", p -> x.analyse(p, 10), 0, 4);
        bad("granted", g -> x.analyse(0, g), 1, 301);
        bad("granted", g -> x.analyse(3, g), 1, 301);
        Judged.due("the run stays", x.count(17), steps);
        Judged.due("what was analysed stays", x.count(8), instances);
        Judged.due("1 granted", x.analyse(0, 1), instances);
        noRun(x);
        Judged.due("no steps", x.count(17), 0);
        Judged.due("degraded", x.count(16), 1);
        Judged.due("300 granted", x.analyse(0, 300), instances);
        Judged.due("not degraded", x.count(16), 0);
        Judged.due("the last answer stays", x.answered(0), x.count(5) - 1);
        for (int policy = 0; policy < 4; policy++) {
            Judged.due("as counted", x.analyse(policy, 300), x.count(8));
        }
    }

    /** "The k-th object (by number) in what a place holds before an instruction .. k = - 1: how many. BAD: none such; the instruction is not come to; nothing analysed." */
    private static void holds() {
        ThreadJudge x = analysed();
        int main = x.method(23, 3);
        int m = x.method(20, 3);
        Judged.due("one", x.holds(main + 2, 1, -1), 1);
        Judged.due("that", x.object(x.holds(main + 2, 1, 0), 0), main);
        bad("k", k -> x.holds(main + 2, 1, k), -1, 1);
        bad("place", p -> x.holds(main + 1, p, -1), 0, 11);
        bad("instruction", i -> x.holds(i, 0, -1), 0, x.count(6));
        Judged.due("without instances", x.holds(m, 0, -1), 0);
        Judged.due("not come to", x.holds(m + 1, 0, -1), -1);
        nothingAnalysed(loaded());
    }

    /** "0 its site, 1 its context (NONE), 2 the class .., 3 whether it is SINGULAR, 4 whether it ESCAPES, 5 the thread that it is (BAD: none). BAD: none such; nothing analysed." */
    private static void object() {
        ThreadJudge x = analysed();
        int n = x.count(9);
        for (int what = 0; what < 6; what++) {
            int w = what;
            bad("object", o -> x.object(o, w), 0, n);
        }
        bad("what", what -> x.object(0, what), 0, 6);
        Judged.due("K: site", x.object(0, 0), x.method(23, 3));
        Judged.due("K: context", x.object(0, 1), -1);
        Judged.due("K: class", x.object(0, 2), 20);
        Judged.due("K: singular", x.object(0, 3), 1);
        Judged.due("K: escapes", x.object(0, 4), 1);
        Judged.due("K: no thread", x.object(0, 5), -1);
        Judged.due("T: thread", x.object(1, 5), 1);
        Judged.due("K[]", x.object(2, 2), -23);
    }

    /** "(f a field that is not static; - 1 its elements; - 2 to - 7 what a LAMBDA HAS, first - 2), or of a static field (o is not looked at then). k = - 1: how many (0 also where it has no such)." */
    private static void field() {
        ThreadJudge x = analysed();
        // fields: target 0, n 1, o 2, s 3; objects: K 0, T 1, K[] 2, lambda 3, string 4
        int n = x.count(9);
        bad("field", f -> x.field(0, f, -1), -7, 4);
        for (int f = -7; f < 3; f++) {
            int g = f;
            bad("object", o -> x.field(o, g, -1), 0, n);
        }
        for (int o : new int[] {0, n, -1, n + 5, Integer.MIN_VALUE, Integer.MAX_VALUE}) {
            Judged.due("static of " + o, x.field(o, 3, -1), 1);
            Judged.due("static of " + o, x.field(o, 3, 0), 0);
            Judged.due("no second of " + o, x.field(o, 3, 1), -1);
            Judged.due("not - 2 of " + o, x.field(o, 3, -2), -1);
        }
        int[][] many = {{0, 0, 0, 0, 0, 0, 0, 0, 0, 1}, {0, 0, 0, 0, 0, 0, 0, 0, 0, 0}, {0, 0, 0, 0, 0, 0, 1, 0, 0, 0}, {0, 0, 0, 0, 0, 1, 0, 0, 0, 0}, {0, 0, 0, 0, 0, 0, 0, 0, 0, 0}};
        for (int o = 0; o < many.length; o++) {
            for (int f = -7; f < 3; f++) {
                Judged.due("field " + f + " of " + o, x.field(o, f, -1), many[o][f + 7]);
                Judged.due("first of " + f + " of " + o, x.field(o, f, 0), many[o][f + 7] == 0 ? -1 : o == 2 ? 0 : 4);
            }
        }
    }

    /** "in a field of an object (f a field that is not static ..), or of a static field (o is not looked at then)": by static alone, whatever else a field is. */
    private static void fieldOfAnyMake() {
        ThreadJudge x = Judged.loaded(Judged.main("class K { volatile field Object v; final field Object f; static volatile field Object w; static final field Object g; "
            + "method void <init>() { load 0; new K; put K.f; return; } static method void <clinit>() { new Object; putstatic K.g; return; } } ",
            "new K; dup; special void K.<init>(); dup; string \"v\"; put K.v; putstatic K.w; return;"));
        x.analyse(0, 300);
        // fields: v 1, f 2, w 3, g 4; objects: the K of <init>, the Object of <clinit>, the K of main, the string
        for (int o = 0; o < 4; o++) {
            int site = x.object(o, 0);
            boolean main = x.instruction(site, 1) == x.count(5) - 1 && site < 2000;
            Judged.due("volatile", x.field(o, 1, -1), main ? 1 : 0);
            Judged.due("final", x.field(o, 2, -1), main ? 1 : 0);
            Judged.due("the string", x.field(o, 1, 0), main ? 3 : -1);
            Judged.due("the K of <init>", x.field(o, 2, 0), main ? 0 : -1);
        }
        for (int o : new int[] {-1, 0, 3, 4, 1000}) {
            Judged.due("static volatile", x.field(o, 3, -1), 1);
            Judged.due("static volatile, first", x.field(o, 3, 0), 2);
            Judged.due("static final", x.field(o, 4, -1), 1);
            Judged.due("static final, first", x.field(o, 4, 0), 1);
        }
        for (int o : new int[] {-1, x.count(9), 1000}) {
            Judged.due("volatile of no object", x.field(o, 1, -1), -1);
            Judged.due("final of no object", x.field(o, 2, -1), -1);
        }
    }

    /** "The k-th method (by number) of which an instruction calls some instance (starts false; so no native one), with those of classes that it lets begin, or starts some. k = - 1: how many." */
    private static void calls() {
        ThreadJudge x = analysed();
        int main = x.method(23, 3);
        Judged.due("new K", x.calls(main, false, -1), 1);
        Judged.due("its <clinit>", x.calls(main, false, 0), 19);
        Judged.due("starts none", x.calls(main, true, -1), 0);
        int start = main + 8;
        Judged.due("start calls none", x.calls(start, false, -1), 0);
        Judged.due("it starts two", x.calls(start, true, -1), 2);
        Judged.due("uncaught", x.calls(start, true, 0), 12);
        Judged.due("run", x.calls(start, true, 1), 22);
        Judged.due("w and <clinit>", x.calls(start + 1, false, -1), 2);
        bad("k", k -> x.calls(start, true, k), -1, 2);
        bad("k", k -> x.calls(start + 1, false, k), -1, 2);
        bad("instruction", i -> x.calls(i, false, -1), 0, x.count(6));
        bad("instruction", i -> x.calls(i, true, -1), 0, x.count(6));
        Judged.due("print is native", x.calls(x.count(6) - 4, false, -1), 0);
    }

    /** "0 how many instances it has, 1 whether it is ONCE. BAD: none such; nothing analysed." */
    private static void reached() {
        ThreadJudge x = analysed();
        bad("method", m -> x.reached(m, 0), 0, 24);
        bad("method", m -> x.reached(m, 1), 0, 24);
        bad("what", what -> x.reached(23, what), 0, 2);
        Judged.due("main", x.reached(23, 0) * 10 + x.reached(23, 1), 11);
        Judged.due("m", x.reached(20, 0) * 10 + x.reached(20, 1), 0);
        Judged.due("w", x.reached(21, 0) * 10 + x.reached(21, 1), 10);
        Judged.due("native", x.reached(13, 0) * 10 + x.reached(13, 1), 0);
    }

    /** "Whether a class may begin (1 or 0). BAD: none such; nothing analysed." */
    private static void begins() {
        ThreadJudge x = analysed();
        bad("class", x::begins, 0, 23);
        int[] due = {1, 0, 0, 0, 0, 0, 0, 0, 0, 0, 0, 0, 0, 0, 0, 0, 1, 1, 0, 0, 1, 1, 1};
        for (int c = 0; c < 23; c++) {
            Judged.due("begins(" + c + ")", x.begins(c), due[c]);
        }
    }

    /** "0 its object (BAD of 0), 1 whether it is SINGLE, 2 how many instances it runs. BAD: none such; nothing analysed." */
    private static void thread() {
        ThreadJudge x = analysed();
        for (int what = 0; what < 3; what++) {
            int w = what;
            bad("thread", t -> x.thread(t, w), 0, 2);
        }
        bad("what", what -> x.thread(0, what), 0, 3);
        bad("what", what -> x.thread(1, what), 0, 3);
        Judged.due("0", x.thread(0, 0), -1);
        Judged.due("1", x.thread(1, 0), 1);
        Judged.due("single", x.thread(0, 1) + x.thread(1, 1), 2);
        Judged.due("main, <clinit>, w", x.thread(0, 2), 3);
        Judged.due("run, uncaught, w, <clinit>", x.thread(1, 2), 4);
    }

    private static void parallelAndHeld() {
        ThreadJudge x = analysed();
        int m = x.method(20, 3);
        int w = x.method(21, 3);
        bad("instruction", i -> x.parallel(i, 0), 0, x.count(6));
        bad("other instruction", i -> x.parallel(0, i), 0, x.count(6));
        Judged.due("not come to", x.parallel(m + 1, 0), -1);
        Judged.due("not come to", x.parallel(0, m + 1), -1);
        Judged.due("w with w", x.parallel(w, w), 1);
        bad("instruction", i -> x.held(i, true, -1), 0, x.count(6));
        bad("instruction", i -> x.held(i, false, -1), 0, x.count(6));
        Judged.due("not come to", x.held(m + 1, true, -1), -1);
        Judged.due("not come to", x.held(m + 1, false, -1), -1);
        Judged.due("without instances", x.held(m, true, -1) + x.held(m, false, -1), 0);
        Judged.due("the CLASS", x.object(x.held(w, true, 0), 0), 3020);
        bad("k", k -> x.held(w, true, k), -1, 1);
        bad("k", k -> x.held(w, false, k), -1, 1);
    }

    private static void raceKnotWaits() {
        ThreadJudge x = Judged.loaded("class T extends Thread { method void run() { push 1; putstatic Main.n; string \"a\"; enter; string \"b\"; enter; string \"a\"; virtual void Object.wait(); null; exit; null; exit; return; } } class Main { static field int n; static method void main() { new T; virtual void Thread.start(); getstatic Main.n; pop; return; } }");
        x.analyse(0, 300);
        Judged.due("a race", x.count(12), 1);
        Judged.due("two knots", x.count(13), 2);
        Judged.due("a wait", x.count(14), 1);
        for (int what = 0; what < 3; what++) {
            int w = what;
            bad("race", k -> x.race(k, w), 0, 1);
            bad("knot", k -> x.knot(k, w), 0, 2);
            bad("wait", k -> x.waits(k, Math.min(1, w)), 0, 1);
        }
        bad("what of a race", what -> x.race(0, what), 0, 3);
        bad("what of a knot", what -> x.knot(0, what), 0, 3);
        bad("what of a wait", what -> x.waits(0, what), 0, 2);
        Judged.due("first", x.race(0, 0), 15);
        Judged.due("other", x.race(0, 1), x.method(18, 3) + 2);
        Judged.due("field", x.race(0, 2), 1);
        Judged.due("53", x.knot(0, 0), 19);
        Judged.due("wait", x.knot(1, 0), 21);
        Judged.due("rash", x.waits(0, 1), 2);
    }

    private static void unresolved() {
        ThreadJudge x = Judged.loaded(Judged.main("excluded class E { static method void e() { return; } } ", "call void E.e(); push 1; pop; call void E.e(); return;"));
        Judged.due("nothing analysed", x.unresolved(0), -1);
        x.analyse(2, 300);
        bad("k", x::unresolved, 0, 2);
        Judged.due("first", x.unresolved(0), x.method(18, 3));
        Judged.due("second", x.unresolved(1), x.method(18, 3) + 3);
        Judged.due("count", x.count(15), 2);
    }

    /** "k = - 1: how many. (To MAIN itself: 0.) BAD: none such, no way (so to a native one); nothing analysed." */
    private static void way() {
        ThreadJudge x = analysed();
        bad("method", m -> x.way(m, -1), 0, 24);
        bad("method", m -> x.way(m, 0), 0, 24);
        Judged.due("to MAIN", x.way(23, -1), 0);
        bad("k to MAIN", k -> x.way(23, k), -1, 0);
        Judged.due("to w", x.way(21, -1), 1);
        bad("k to w", k -> x.way(21, k), -1, 1);
        Judged.due("to w", x.way(21, 0), x.method(23, 3) + 9);
        for (int m : new int[] {1, 5, 13, 15, 16, 17, 18, 20}) {
            Judged.due("no way to " + m, x.way(m, -1), -1);
            Judged.due("no way to " + m, x.way(m, 0), -1);
        }
        // a <clinit> of MAIN's class is let begin by no instruction
        ThreadJudge y = Judged.loaded("class Main { static method void <clinit>() { return; } static method void main() { return; } }");
        y.analyse(0, 300);
        Judged.due("no way to MAIN's <clinit>", y.way(17, -1), -1);
    }

    /** "calls, starts, and letting begin; the first one in MAIN, each next one in a method that the one before leads to, the last leads to the method: the shortest row; of several the one whose first instruction that differs is the lesser" */
    private static void waysInOrder() {
        String a = "class A { static method void a() { call void A.c(); call void A.b(); call void A.c(); return; } static method void b() { call void A.z(); return; } static method void c() { call void A.z(); call void A.y(); return; } static method void z() { call void A.y(); return; } static method void y() { return; } static method void d() { call void A.z(); return; } } ";
        // a 17 (14..17), b 18 (18, 19), c 19 (20..22), z 20 (23, 24), y 21 (25), d 22 (26, 27), main 23 from 28
        ThreadJudge x = Judged.loaded(Judged.main(a, "call void A.a(); return;"));
        x.analyse(0, 300);
        Judged.due("to y: shortest", x.way(21, -1), 3);
        Judged.due("first", x.way(21, 0), 28);
        Judged.due("second", x.way(21, 1), 14);
        Judged.due("third", x.way(21, 2), 21);
        Judged.due("to z", x.way(20, 1) * 100 + x.way(20, 2), 1420);
        Judged.due("to b", x.way(18, 1), 15);
        x = Judged.loaded(Judged.main(a, "call void A.d(); call void A.b(); return;"));
        x.analyse(0, 300);
        Judged.due("the lesser first instruction", x.way(20, 0), 28);
        Judged.due("then", x.way(20, 1), 26);
        // letting begin and starting
        x = Judged.loaded(Judged.main("class S { static method void <clinit>() { new T; virtual void Thread.start(); return; } } class C extends S { static field int f; } class T extends Thread { method void run() { call void T.t(); return; } static method void t() { return; } } ", "getstatic C.f; pop; return;"));
        x.analyse(0, 300);
        // <clinit> 17 (14..16), run 18 (17, 18), t 19 (19), main 20 from 20
        Judged.due("to t", x.way(19, -1), 3);
        Judged.due("by letting begin", x.way(19, 0), 20);
        Judged.due("by starting", x.way(19, 1), 15);
        Judged.due("by a call", x.way(19, 2), 17);
    }

    /** "A sign of 32 .. 126 comes behind the question: how many it has. BAD, changing nothing: another one, or it has 200." */
    private static void ask() {
        ThreadJudge x = new ThreadJudge();
        Judged.due("32", x.ask(32), 1);
        Judged.due("126", x.ask(126), 2);
        bad("sign", x::ask, 32, 127);
        Judged.due("0", x.ask(0), -1);
        Judged.due("a byte more", x.ask(65 + 256), -1);
        Judged.due("changes nothing", x.ask('a'), 3);
        for (int k = 4; k <= 200; k++) {
            Judged.due("sign " + k, x.ask(32 + k % 95), k);
        }
        Judged.due("it has 200", x.ask('a'), -1);
        Judged.due("nor a wrong one", x.ask(31), -1);
    }

    // ---- 17 to 21

    /** "A run begins. False: nothing at hand." */
    private static void begin() {
        ThreadJudge x = new ThreadJudge();
        Judged.yes("nothing at hand", !x.begin());
        noRun(x);
        x = loaded();
        noRun(x);
        Judged.yes("begins without analysis", x.begin());
        Judged.due("a step", x.step(0), 1);
        Judged.yes("begins anew", x.begin());
        Judged.due("no steps", x.count(17), 0);
        x.clear();
        x.load();
        Judged.yes("nothing at hand", !x.begin());
        noRun(x);
    }

    /** "A step of a thread: 1; 0, and nothing is done, if it can't go on (it waits, sleeps, is ended, is none; the run is over). BAD: no run." */
    private static void step() {
        ThreadJudge x = Judged.loaded(Judged.main("class T extends Thread { method void run() { string \"a\"; enter; string \"a\"; exit; return; } } ", "new T; virtual void Thread.start(); string \"a\"; enter; string \"a\"; virtual void Object.wait(); string \"a\"; exit; return;"));
        x.begin();
        for (int t : new int[] {1, 2, -1, 12, Integer.MIN_VALUE, Integer.MAX_VALUE}) {
            Judged.due("is none: " + t, x.step(t), 0);
        }
        Judged.due("nothing is done", x.count(17), 0);
        for (int k = 0; k < 4; k++) {
            Judged.due("step", x.step(0), 1);
        }
        Judged.due("string", x.step(1), 1);
        Judged.due("waits", x.step(1), 0);
        Judged.due("nothing is done", x.count(17), 5);
        Judged.due("two more", x.step(0) + x.step(0), 2);
        Judged.due("sleeps", x.step(0), 0);
        Judged.due("nothing is done", x.count(17), 7);
        for (int k = 0; k < 4; k++) {
            Judged.due("step", x.step(1), 1);
        }
        Judged.due("ended", x.step(1), 0);
        Judged.due("nothing is done", x.count(17), 11);
    }

    /** "So many steps (1 .. 2,000) ..: how many were done, as none could any more. BAD: another number, no run." */
    private static void run() {
        ThreadJudge x = Judged.loaded(Judged.main("", "L: goto L;"));
        Judged.due("no run", x.run(1, 1), -1);
        x.begin();
        bad("steps", n -> x.run(n, 1), 1, 2001);
        Judged.due("nothing is done", x.count(17), 0);
        Judged.due("one", x.run(1, 1), 1);
        Judged.due("2,000", x.run(2000, -7), 2000);
        Judged.due("so many", x.count(17), 2001);
        Judged.due("1,999", x.run(1999, 0), 1999);
        ThreadJudge y = Judged.loaded(Judged.main("", "push 1; pop; return;"));
        y.begin();
        Judged.due("just as many", y.run(3, 1), 3);
        Judged.due("none any more", y.run(3, 1), 0);
        y.begin();
        Judged.due("fewer", y.run(4, 1), 3);
        y.begin();
        Judged.due("fewer still", y.run(2, 1), 2);
        Judged.due("the rest", y.run(2000, 1), 1);
    }

    /** "each of one of those threads that can go on, in their order that with number y modulo how many these are: x is the draw at first; x = x * 1103515245 + 12345, the lowest 31 bits, y = x / 65536" */
    private static void draws() {
        String text = Judged.main("class T extends Thread { method void run() { string \"a\"; enter; push 1; pop; string \"a\"; exit; push 2; pop; return; } } ", "new T; virtual void Thread.start(); new T; dup; virtual void Thread.start(); new T; virtual void Thread.start(); virtual void Thread.join(); return;");
        for (int draw : new int[] {0, 1, -1, 77, 65535, 65536, 123456789, -2147483648, 2147483647, -987654321}) {
            ThreadJudge x = Judged.loaded(text);
            ThreadJudge y = Judged.loaded(text);
            x.begin();
            y.begin();
            int done = 0;
            long v = draw;
            int ready = 1;
            while (ready > 0) {
                int n = y.count(19);
                int[] goes = new int[n];
                ready = 0;
                for (int t = 0; t < n; t++) {
                    goes[t] = y.state(t, 0);
                    ready += goes[t] == 0 ? 1 : 0;
                }
                v = (v * 1103515245L + 12345L) & 0x7fffffffL;
                int far = ready == 0 ? -1 : (int) (v / 65536 % ready);
                for (int t = 0; t < n && ready > 0; t++) {
                    if (goes[t] == 0 && far-- == 0) {
                        Judged.due("drawn", y.step(t), 1);
                        done++;
                    }
                }
                if (done == 17) {
                    x.begin();
                    Judged.due("some of them", x.run(17, draw), 17);
                    for (int t = 0; t < n; t++) {
                        Judged.due("instruction of " + t, x.state(t, 2), y.state(t, 2));
                    }
                    x.begin();
                }
            }
            Judged.due("all of them, draw " + draw, x.run(500, draw), done);
            Judged.due("ended", x.state(0, 0), y.state(0, 0));
        }
    }

    /** "0 0 it can go on .., 1 it waits for a thing, 2 it sleeps, 3 it waits for a thread or a class, 4 it is ended; 1 how many frames; 2 the instruction of the topmost one (BAD without); 3 its method (BAD); 4 the thing that it waits for, or sleeps at (BAD without). BAD: none such; no run." */
    private static void state() {
        ThreadJudge x = ran();
        for (int what = 0; what < 5; what++) {
            int w = what;
            bad("thread", t -> x.state(t, w), 0, 2);
        }
        bad("what", what -> x.state(0, what), 0, 5);
        int[] ended = {4, 0, -1, -1, -1};
        for (int what = 0; what < 5; what++) {
            Judged.due("ended " + what, x.state(0, what), ended[what]);
        }
        x.begin();
        int[] begun = {0, 1, x.method(23, 3), 23, -1};
        for (int what = 0; what < 5; what++) {
            Judged.due("begun " + what, x.state(0, what), begun[what]);
        }
        Judged.due("no thread 1", x.state(1, 0), -1);
    }

    /** What another run had is none of this one's. */
    private static void stateAnew() {
        ThreadJudge x = Judged.loaded(Judged.main("class T extends Thread { static field Object o; method void run() { push 7; store 1; getstatic T.o; enter; getstatic T.o; virtual void Object.wait(); null; exit; return; } } ",
            "new Object; putstatic T.o; new T; virtual void Thread.start(); new T; virtual void Thread.start(); return;"));
        x.begin();
        x.run(60, 5);
        for (int t = 1; t < 3; t++) {
            Judged.due("sleeps", x.state(t, 0), 2);
            Judged.due("has a frame", x.state(t, 1), 1);
            Judged.due("local", x.local(t, 1), 7);
        }
        x.begin();
        for (int t = 1; t < 13; t++) {
            for (int what = 0; what < 5; what++) {
                Judged.due("none such any more", x.state(t, what), -1);
            }
            Judged.due("no local any more", x.local(t, 1), -1);
            Judged.due("no step any more", x.step(t), 0);
        }
        Judged.due("no thing any more", x.thing(0, 0), -1);
        Judged.due("no value any more", x.value(1, 0), -1);
        Judged.due("static fields are null", x.value(0, 1), -1);
        Judged.due("no frame that waits", x.state(0, 0) * 10 + x.state(0, 1), 1);
    }

    /** "A number, or a thing's number (null: BAD), in a place of the topmost frame of a thread, as for kind() (0 in a local that was never set). BAD: none such, no run." */
    private static void local() {
        ThreadJudge x = Judged.loaded(Judged.main("class K { static method void k(int) { return; } } ", "new K; store 9; push -7; store 0; null; load 9; push 2147483647; call void K.k(int); return;"));
        x.begin();
        bad("place", p -> x.local(0, p), 0, 10);
        bad("thread", t -> x.local(t, 0), 0, 1);
        for (int p = 0; p < 10; p++) {
            Judged.due("never set", x.local(0, p), 0);
        }
        for (int k = 0; k < 7; k++) {
            x.step(0);
        }
        int[] due = {-7, 0, 0, 0, 0, 0, 0, 0, 0, 0, -1, 0, 2147483647};
        for (int p = 0; p < due.length; p++) {
            Judged.due("place " + p, x.local(0, p), due[p]);
        }
        bad("place", p -> x.local(0, p), 0, 13);
        x.step(0);
        Judged.due("of the topmost frame", x.local(0, 0), 2147483647);
        bad("place", p -> x.local(0, p), 0, 10);
        x.step(0);
        Judged.due("below it", x.local(0, 11), 0);
        bad("place", p -> x.local(0, p), 0, 12);
    }

    /** "0 the class that it is of (as for object()), 1 its site, 2 its length (0 of what is no array), 3 how often it is entered, 4 the thread that has entered it (BAD: none). BAD: none such; no run." */
    private static void thing() {
        ThreadJudge x = Judged.loaded(Judged.main("class K { method void m() { return; } } interface F { abstract method void f(); } ", "new K; push 5; array K; push 0; array int; lambda F void Main.main(); string \"K\"; call Class Class.named(String); string \"m\"; virtual Method Class.find(String); string \"K\"; call Class Class.named(String); virtual Object Class.newInstance(); A: null; throw; B: null; H: enter; push 1; null; exit; return; catch Throwable A B H;"));
        x.begin();
        bad("thing", n -> x.thing(n, 0), 0, 0);
        x.run(18, 1);
        int m = x.method(19, 3);
        // string "K" is thing 4, the CLASS 5, "m" 6, the METHOD 7, what newInstance made 8, NullPointer 9
        int[][] due = {{19, m, 0, 0, -1}, {-22, m + 2, 5, 0, -1}, {-2, m + 4, 0, 0, -1}, {20, m + 5, 0, 0, -1}, {2, 2000, 0, 0, -1}, {3, 3019, 0, 0, -1}, {2, 2001, 0, 0, -1}, {4, 4017, 0, 0, -1}, {19, 6019, 0, 0, -1}, {6, 5006, 0, 1, 0}};
        Judged.due("things", x.count(18), due.length);
        for (int n = 0; n < due.length; n++) {
            for (int what = 0; what < 5; what++) {
                Judged.due("thing(" + n + ", " + what + ")", x.thing(n, what), due[n][what]);
            }
        }
        for (int what = 0; what < 5; what++) {
            int w = what;
            bad("thing", n -> x.thing(n, w), 0, due.length);
        }
        bad("what", what -> x.thing(0, what), 0, 5);
    }

    /** "A field (an element, if f is - 1 less its number; static: n is not looked at) of a thing: a number, or a thing's (null: BAD). BAD: none such, the thing has no such field or element; no run." */
    private static void value() {
        ThreadJudge x = Judged.loaded(Judged.main("class A { field int n; static field int s; } class B extends A { field A a; static field A t; } ", "new B; dup; store 1; push 5; put A.n; load 1; load 1; put B.a; push 9; putstatic A.s; load 1; putstatic B.t; new A; pop; push 2; array int; dup; push 1; push -3; setelement; pop; push 16; array A; dup; push 15; load 1; setelement; pop; string \"a\"; pop; lambda Runnable void Main.main(); pop; return;"));
        x.begin();
        Judged.due("static before", x.value(0, 2), 0);
        Judged.due("static null", x.value(0, 4), -1);
        x.run(100, 1);
        // fields: target 0, n 1, s 2, a 3, t 4; things: B 0, A 1, int[] 2, A[] 3, string 4, lambda 5
        int[][] due = {{-1, 5, 9, 0, 0}, {-1, 0, 9, -1, 0}, {-1, -1, 9, -1, 0}, {-1, -1, 9, -1, 0}, {-1, -1, 9, -1, 0}, {-1, -1, 9, -1, 0}};
        for (int n = 0; n < due.length; n++) {
            int thing = n;
            for (int f = 0; f < 5; f++) {
                Judged.due("value(" + n + ", " + f + ")", x.value(n, f), due[n][f]);
            }
            Judged.due("no field", x.value(n, 5), -1);
            Judged.due("far", x.value(n, Integer.MAX_VALUE) + x.value(n, Integer.MIN_VALUE), -2);
            if (n != 2 && n != 3) {
                Judged.due("no element", x.value(thing, -1), -1);
            }
        }
        Judged.due("element 0", x.value(2, -1), 0);
        Judged.due("element 1", x.value(2, -2), -3);
        Judged.due("no element 2", x.value(2, -3), -1);
        Judged.due("element 0", x.value(3, -1), -1);
        Judged.due("element 15", x.value(3, -16), 0);
        Judged.due("no element 16", x.value(3, -17), -1);
        for (int n : new int[] {6, -1, 400, Integer.MIN_VALUE, Integer.MAX_VALUE}) {
            Judged.due("static of any", x.value(n, 2), 9);
            Judged.due("static of any", x.value(n, 4), 0);
            Judged.due("no thing", x.value(n, 1), -1);
            Judged.due("no thing", x.value(n, -1), -1);
        }
    }

    private static void saidAndClash() {
        ThreadJudge x = Judged.loaded(Judged.main("class T extends Thread { method void run() { push 1; putstatic Main.n; push -1; call void Out.print(int); return; } } ", "new T; virtual void Thread.start(); push 2; putstatic Main.n; push 3; call void Out.print(int); return;").replace("class Main {", "class Main { static field int n;"));
        x.begin();
        bad("said", x::said, 0, 0);
        bad("clash", k -> x.clash(k, 0), 0, 0);
        for (int k = 0; k < 7; k++) {
            x.step(0);
        }
        x.run(100, 1);
        Judged.due("said", x.said(0), 3);
        Judged.due("it may be BAD, too", x.said(1), -1);
        bad("said", x::said, 0, 2);
        Judged.due("one clash", x.count(21), 1);
        bad("clash", k -> x.clash(k, 0), 0, 1);
        bad("clash", k -> x.clash(k, 1), 0, 1);
        bad("what", what -> x.clash(0, what), 0, 2);
    }
}
