/** Rows that are long: many objects, instances, methods, instructions, threads, each of which is asked for by its number. */
public final class ManyTest {
    public static void main(String[] args) {
        objectsInOnePlace();
        objectsByContexts();
        selectedOfMany();
        manyMethods();
        manyInstances();
        manyThreads();
        startedOfMany();
        longMain();
        longWays();
        heldOfMany();
        knotsOfMany();
        racesOfMany();
        givenAndLetGoOfMany();
        stringsClassesMethods();
        fourThousand();
        escapesOfMany();
        heldByManyInstances();
        onceByMany();
        behindManyCatches();
        lateObjects();
        lateThreads();
        parallelInOneOfMany();
        heldByLongRows();
        Judged.end();
    }

    private static String times(String what, int n) {
        StringBuilder all = new StringBuilder();
        for (int k = 0; k < n; k++) {
            all.append(what.replace("#", "" + k));
        }
        return all.toString();
    }

    private static ThreadJudge of(int policy, String text) {
        ThreadJudge x = Judged.loaded(text);
        x.analyse(policy, 300);
        return x;
    }

    /** 116 objects in one static field, and those of them that a class fits. */
    private static void objectsInOnePlace() {
        String makes = times("new A; putstatic Main.o; new B; putstatic Main.o; ", 29);
        String text = "class A { } class B { } class M { static method void m() { " + makes + "return; } static method void n() { " + makes + "return; } } class Main { static field Object o; static method void main() { call void M.m(); call void M.n(); getstatic Main.o; dup; cast A; pop; cast B; return; } }";
        ThreadJudge x = of(0, text);
        int get = x.count(6) - 6;
        Judged.due("objects", x.count(9), 117);
        Judged.due("all", x.holds(get + 1, 10, -1), 116);
        for (int k = 0; k < 116; k++) {
            Judged.due("k-th " + k, x.holds(get + 1, 10, k), k);
            Judged.due("in the field " + k, x.field(0, 1, k), k);
        }
        Judged.due("no more", x.holds(get + 1, 10, 116), -1);
        x = of(0, text);
        Judged.due("A's", x.holds(get + 3, 11, -1), 58);
        Judged.due("B's", x.holds(get + 5, 10, -1), 58);
        for (int k = 0; k < 58; k++) {
            Judged.due("A " + k, x.holds(get + 3, 11, k), k * 2);
            Judged.due("B " + k, x.holds(get + 5, 10, k), k * 2 + 1);
        }
    }

    private static String contexts(int strings) {
        return "class A { method void m() { " + times("new Object; putstatic Main.o; ", 58) + "return; } } class Main { static field Object o; static field Object[] r; static method void main() { "
            + times("new A; virtual void A.m(); ", 8) + times("string \"#\"; putstatic Main.o; ", strings) + "push 1; array Object; putstatic Main.r; getstatic Main.r; push 0; getstatic Main.o; setelement; getstatic Main.r; push 0; element; return; } }";
    }

    /** "more than 480 objects": just 480 of them, by 8 contexts: all in one place, and in elements; then one more. */
    private static void objectsByContexts() {
        ThreadJudge x = of(2, contexts(3));
        int last = x.count(6) - 1;
        // of 8 contexts 58 each, 8 A, the array, 3 strings, what the machine throws
        Judged.due("objects", x.count(9), 58 * 8 + 8 + 1 + 3 + 4);
        Judged.due("not degraded", x.count(16), 0);
        Judged.due("all of the field", x.holds(last, 10, -1), 464 + 3);
        for (int k = 0; k < 464; k += 7) {
            Judged.due("k-th " + k, x.holds(last, 10, k), k);
            Judged.due("site of " + k, x.object(k, 0), 14 + k / 8 * 2);
            Judged.due("escapes", x.object(k, 4), 1);
        }
        for (int k = 0; k < 8; k++) {
            Judged.due("context " + k, x.object(k, 1), x.method(18, 3) + k * 2);
        }
        for (int k = 464; k < 467; k++) {
            Judged.due("string " + k, x.object(x.holds(last, 10, k), 0), 2000 + k - 464);
        }
        Judged.due("no more", x.holds(last, 10, 467), -1);
        Judged.due("elements", x.field(x.holds(last - 2, 10, 0), -1, -1), 467);
        x = of(2, contexts(4));
        Judged.due("degraded", x.count(16), 1);
        Judged.due("without contexts", x.count(9), 58 + 8 + 1 + 4 + 4);
        Judged.due("by policy 0", x.object(0, 1), -1);
        Judged.due("by policy 3 there is one context of m", x.analyse(3, 300) * 10 + x.count(16), 20);
    }

    /** "An object ESCAPES: what a static field holds, what is started": each of 470 objects, by these alone. */
    private static void escapesOfMany() {
        String start = "class T extends Thread { method void run() { return; } } class A { method void m() { " + times("new T; virtual void Thread.start(); ", 58) + "return; } } " + Judged.main("", times("new A; virtual void A.m(); ", 8) + "return;");
        String hold = "class A { static field Object o; method void m() { " + times("new Object; putstatic A.o; ", 58) + "return; } } " + Judged.main("", times("new A; virtual void A.m(); ", 8) + "return;");
        for (String text : new String[] {start, hold}) {
            boolean starts = text.equals(start);
            for (int last = 0; last < 2; last++) {
                ThreadJudge x = of(2, text);
                int n = x.count(9);
                Judged.due("objects", n, 464 + 8 + (starts ? 2 : 1));
                Judged.due("threads", x.count(10), starts ? 465 : 1);
                // half of them by each object that is asked
                for (int o = last; o < n; o += 2) {
                    Judged.due("escapes: " + o, x.object(o, 4), o < 464 ? 1 : 0);
                }
            }
        }
    }

    /** "all instances of its method together": more than fifty of them, in the order of objects */
    private static void heldByManyInstances() {
        StringBuilder calls = new StringBuilder();
        for (int k = 0; k < 57; k++) {
            calls.append(k % 3 == 0 ? "new A; " : k % 3 == 1 ? "new B; " : "null; ").append("call void M.m(Object); ");
        }
        // 14 enter 15 .. of m, then main's
        ThreadJudge x = of(1, "class A { } class B { } class M { static method void m(Object) { load 0; enter; null; exit; return; } } " + Judged.main("", calls + "return;"));
        int main = x.method(18, 3);
        Judged.due("instances", x.reached(17, 0), 57);
        Judged.due("all together", x.holds(15, 10, -1), 19 + 19);
        for (int k = 0; k < 38; k++) {
            int object = x.holds(15, 10, k);
            Judged.due("k-th", object, k);
            Judged.due("site", x.object(object, 0), main + (k / 2 * 3 + k % 2) * 2);
        }
        Judged.due("may be held", x.held(16, false, -1), 38);
        Judged.due("surely in all", x.held(16, true, -1), 0);
        x = of(1, "class M { static method void m() { return; } } " + Judged.main("", "string \"a\"; enter; " + times("call void M.m(); ", 50) + "null; exit; return;"));
        Judged.due("surely in all of fifty", x.held(14, true, -1), 1);
        x = of(1, "class M { static method void m() { return; } } " + Judged.main("", "call void M.m(); string \"a\"; enter; " + times("call void M.m(); ", 50) + "null; exit; return;"));
        Judged.due("not in the first", x.held(14, true, -1), 0);
        x = of(1, "class M { static method void m() { return; } } " + Judged.main("", "string \"a\"; enter; " + times("call void M.m(); ", 50) + "null; exit; call void M.m(); return;"));
        Judged.due("not in the last", x.held(14, true, -1), 0);
    }

    /** "another one that just one instruction .. calls or starts, if that is ONCE. (The least such.)": by rows of many, whichever way they are numbered */
    private static void onceByMany() {
        for (int way = 0; way < 2; way++) {
            StringBuilder all = new StringBuilder();
            for (int k = 0; k < 90; k++) {
                int next = way == 0 ? k + 1 : k - 1;
                all.append("static method void m" + k + "() { " + (next < 0 || next > 89 ? "" : "call void A.m" + next + "(); ") + "return; } ");
            }
            String first = "call void A.m" + (way == 0 ? 0 : 89) + "(); ";
            ThreadJudge x = of(0, "class A { " + all + "} " + Judged.main("", first + "return;"));
            ThreadJudge y = of(0, "class A { " + all + "} " + Judged.main("", first + first + "return;"));
            for (int m = 17; m < 107; m++) {
                Judged.due("once", x.reached(m, 1), 1);
                Judged.due("not once", y.reached(m, 1), 0);
            }
            x = of(0, "class A { " + all + "} " + Judged.main("", first + "return;"));
            int start = way == 0 ? 17 : 106;
            int end = way == 0 ? 106 : 17;
            Judged.due("from the first", Judged.ask(x, "from(A.m" + (start - 17) + ")"), 90);
            Judged.due("into the last", Judged.ask(x, "into(A.m" + (end - 17) + ")"), 91);
            Judged.due("callers alone", Judged.ask(x, "callers(A.m" + (end - 17) + ")"), 1);
            Judged.due("callees alone", Judged.ask(x, "callees(A.m" + (start - 17) + ")"), 1);
            Judged.due("the way to the last", x.way(end, -1), 90);
            for (int k = 0; k < 90; k++) {
                Judged.due("its instructions", x.instruction(x.way(end, k), 1), k == 0 ? 107 : way == 0 ? 16 + k : 107 - k);
            }
        }
    }

    /** "ways as the check goes, 'catch' too": of the last of a hundred 'catch'es as of the first */
    private static void behindManyCatches() {
        String more = times("static method void c#() { A: push 1; pop; B: return; H: pop; return; " + times("catch Cast A B H; ", 8) + "} ", 12);
        String last = "static method void l(Object) { A: load 0; store 1; new Object; store 0; C: push 1; push 0; div; pop; D: return; H: pop; load 0; pop; goto A; catch Arithmetic C D H; } ";
        for (String classes : new String[] {last + more, more + last}) {
            ThreadJudge x = of(0, Judged.main("class A { " + classes + "} ", "string \"a\"; call void A.l(Object); return;"));
            int m = classes.startsWith(last) ? 17 : 29;
            int from = x.method(m, 3);
            Judged.due("'catch'es", x.method(m, 6), 1);
            Judged.due("the string, and by way of the 'catch' the Object", x.holds(from, 0, -1), 2);
            Judged.due("into the handler", x.holds(from + 9, 0, -1), 1);
            Judged.due("Arithmetic", x.object(x.holds(from + 9, 10, 0), 0), 5007);
            Judged.due("the new Object is not singular", x.object(x.holds(from + 9, 0, 0), 3), 0);
            Judged.due("called by one that is once", x.reached(m, 1), 1);
            Judged.due("height in the handler", x.instruction(from + 9, 3), 1);
            Judged.due("kind in the handler", x.kind(from + 9, 10, 7), 1);
            Judged.due("local in the handler", x.kind(from + 9, 0, 0), 1);
        }
    }

    /** Seven contexts of 58 sites, and their receivers: 413 objects that come to be ahead of those of class Z. */
    private static String behindMany(String z, String more) {
        return "class A { method void m() { " + times("new Object; pop; ", 58) + "return; } } " + more + "class Z { " + z + "} " + Judged.main("", times("new A; virtual void A.m(); ", 7) + "call void Z.z(); return;");
    }

    /** Monitors, knots, calls of wait(), accesses of objects that come to be behind 400 others. */
    private static void lateObjects() {
        String t = "class T extends Thread { field int n; synchronized method void run() { load 0; get T.n; pop; return; } synchronized method void s() { return; } } ";
        String z = "static field T t; static method void z() { new T; dup; putstatic Z.t; store 1; load 1; virtual void Thread.start(); load 1; push 1; put T.n; load 1; virtual void T.s(); "
            + "string \"y\"; enter; string \"z\"; enter; call void Z.in(); null; exit; null; exit; string \"z\"; enter; string \"y\"; enter; null; exit; null; exit; "
            + "string \"w\"; enter; L: string \"w\"; virtual void Object.wait(); push 1; ifeq L; null; exit; return; } static method void in() { string \"v\"; enter; null; exit; return; } ";
        ThreadJudge x = of(2, behindMany(z, t));
        Judged.due("objects", x.count(9), 406 + 7 + 1 + 4 + 3);
        int run = x.method(18, 3);
        int s = x.method(19, 3);
        int first = x.method(20, 3);
        int in = x.method(21, 3);
        Judged.due("instances", x.count(8), 1 + 7 + 1 + 1 + 1 + 1 + 1);
        Judged.due("threads", x.count(10), 2);
        Judged.due("single", x.thread(1, 1), 1);
        Judged.due("its object escapes", x.object(x.thread(1, 0), 4), 1);
        // fields of T: n 1, Z's t 2
        Judged.due("a race of get and put", x.count(12), 1);
        Judged.due("get", x.race(0, 0), run + 1);
        Judged.due("put", x.race(0, 1), first + 8);
        Judged.due("run's LOCK", x.held(run + 1, true, -1), 1);
        Judged.due("is the thread's object", x.held(run + 1, true, 0), x.thread(1, 0));
        Judged.due("s's LOCK", x.held(s, true, -1) * 10 + x.held(s, false, -1), 11);
        Judged.due("held in what is called", x.held(in, true, -1) * 10 + x.held(in, false, -1), 22);
        Judged.due("and within", x.held(in + 2, true, -1) * 10 + x.held(in + 2, false, -1), 33);
        // y z, z y; v is wanted while y and z are held, but leads to none
        Judged.due("knots", x.count(13), 2);
        int y = x.held(in, true, 0);
        int zz = x.held(in, true, 1);
        Judged.due("y", x.object(y, 0), 2000);
        Judged.due("z", x.object(zz, 0), 2001);
        Judged.due("y is held", x.knot(0, 1) * 1000 + x.knot(0, 2), y * 1000 + zz);
        Judged.due("z is held", x.knot(1, 1) * 1000 + x.knot(1, 2), zz * 1000 + y);
        Judged.due("neither loose nor rash", x.count(14), 0);
        // what both hold makes no race
        x = of(2, behindMany(z.replace("load 1; push 1; put T.n;", "load 1; push 1; call void Z.p(T, int);") + "static method void p(T, int) { load 0; enter; load 0; load 1; put T.n; null; exit; return; } ", t));
        Judged.due("no race", x.count(12), 0);
    }

    /** "BEFORE", "PARALLEL": the last of 464 threads meets MAIN as the first one does. */
    private static void lateThreads() {
        for (int late = 0; late < 2; late++) {
            String u = "class T extends Thread { method void run() { return; } } class U extends T { method void run() { return; } } ";
            String starts = times("new T; virtual void Thread.start(); ", 57);
            String one = "new U; virtual void Thread.start(); ";
            ThreadJudge x = of(2, u + "class A { method void m() { " + (late == 0 ? one + starts : starts + one) + "return; } } " + Judged.main("", times("new A; virtual void A.m(); ", 8) + "return;"));
            Judged.due("threads", x.count(10), 465);
            int run = x.method(18, 3);
            int main = x.method(20, 3);
            for (int i = 0; i < 17; i += 8) {
                Judged.due("U's run with main's " + i, x.parallel(run, main + i), 1);
                Judged.due("the other way round", x.parallel(main + i, run), 1);
            }
            Judged.due("of several threads", x.parallel(run, run), 1);
            Judged.due("T's with U's", x.parallel(x.method(17, 3), run), 1);
            int last = late == 0 ? 8 : 464;
            Judged.due("the object of a thread", x.object(x.thread(last, 0), 2), 20);
            Judged.due("is that thread", x.object(x.thread(last, 0), 5), last);
            Judged.due("runs run and uncaught", x.thread(last, 2), 2);
        }
    }

    /** "Two instructions in instances may be PARALLEL": in the first of thirty instances as in the last. */
    private static void parallelInOneOfMany() {
        String k = "class K { static method void k() { return; } static method void r() { return; } } class T extends Thread { method void run() { call void K.r(); return; } } ";
        String start = "new T; virtual void Thread.start(); ";
        String calls = times("call void K.k(); ", 30);
        String[] mains = {"goto B; A: call void K.k(); return; B: " + calls + start + "goto A;", calls + start + "call void K.k(); return;", "goto B; A: return; B: " + calls + start + "goto A;"};
        for (int n = 0; n < mains.length; n++) {
            ThreadJudge x = of(1, Judged.main(k, mains[n]));
            Judged.due("instances", x.reached(17, 0), n == 2 ? 30 : 31);
            Judged.due("k with r", x.parallel(14, 15), n == 2 ? 0 : 1);
            Judged.due("r with k", x.parallel(15, 14), n == 2 ? 0 : 1);
        }
    }

    /** "MAY BE HELD .. at any instruction that calls it", "of all sets for which this holds the greatest": by rows of calls that go against the order of instances. */
    private static void heldByLongRows() {
        StringBuilder all = new StringBuilder();
        StringBuilder calls = new StringBuilder();
        for (int k = 0; k < 40; k++) {
            all.append("static method void m").append(k).append("() { ").append(k < 39 ? "call void K.m" + (k + 1) + "(); " : "").append("return; } ");
            calls.insert(0, "call void K.m" + k + "(); ");
        }
        String k = "class K { " + all + "} ";
        // all are called without; then the first with a monitor
        ThreadJudge x = of(0, Judged.main(k, calls + "string \"a\"; enter; call void K.m0(); null; exit; return;"));
        ThreadJudge y = of(0, Judged.main(k, "string \"a\"; enter; " + calls + "null; exit; return;"));
        ThreadJudge z = of(0, Judged.main(k, "string \"a\"; enter; " + calls + "null; exit; call void K.m0(); return;"));
        for (int m = 17; m < 57; m++) {
            int i = x.method(m, 3);
            Judged.due("may be held", x.held(i, false, -1), 1);
            Judged.due("not surely", x.held(i, true, -1), 0);
            Judged.due("surely", y.held(i, true, -1), 1);
            Judged.due("once without", z.held(i, true, -1), 0);
        }
    }

    /** A call on 70 objects of two classes. */
    private static void selectedOfMany() {
        ThreadJudge x = of(0, "class A { method void m() { return; } } class B extends A { method void m() { return; } } class Main { static field A o; static method void main() { " + times("new A; putstatic Main.o; ", 54) + " call void Main.b(); getstatic Main.o; virtual void A.m(); return; } static method void b() { " + times("new B; putstatic Main.o; ", 30) + " return; } }");
        Judged.due("A's m", x.holds(14, 0, -1), 54);
        Judged.due("B's m", x.holds(15, 0, -1), 30);
        Judged.due("first", x.holds(15, 0, 0), 54);
        Judged.due("last", x.holds(15, 0, 29), 83);
        Judged.due("calls", x.calls(x.method(19, 3) + 110, false, -1), 2);
    }

    /** 117 methods: sets of them, and ways. */
    private static void manyMethods() {
        String text = "class A { " + times("static method void a#() { call void A.b#(); return; } static method void b#() { return; } ", 49) + "} class Main { static method void main() { " + times("call void A.a#(); ", 49) + "return; } }";
        ThreadJudge x = of(0, text);
        Judged.due("methods", x.count(5), 116);
        Judged.due("all", Judged.ask(x, "all"), 116);
        for (int k = 0; k < 116; k += 3) {
            Judged.due("all " + k, x.answered(k), k);
        }
        x = of(0, text);
        Judged.due("callers", Judged.ask(x, "callers(callees(A)) & A"), 49);
        Judged.due("the last", x.answered(48), 17 + 96);
        Judged.due("from main", Judged.ask(x, "from(main) - main"), 98);
        Judged.due("into the last", Judged.ask(x, "into(A.b48)"), 3);
        Judged.due("b", x.answered(1), 114);
        Judged.due("a", x.answered(0), 113);
        Judged.due("main", x.answered(2), 115);
        x = of(0, text);
        for (int k = 0; k < 49; k += 4) {
            Judged.due("way to b " + k, x.way(18 + 2 * k, -1), 2);
            Judged.due("first", x.way(18 + 2 * k, 0), x.method(115, 3) + k);
            Judged.due("second", x.way(18 + 2 * k, 1), 14 + k * 3);
            Judged.due("calls", x.calls(x.method(115, 3) + k, false, 0), 17 + 2 * k);
            Judged.due("once", x.reached(18 + 2 * k, 1), 1);
        }
        // brackets, of which what comes last is not all
        Judged.due("with a lesser one behind", Judged.ask(x, "(A.b48 | Object.wait)"), 2);
        Judged.due("lesser", x.answered(0), 1);
        Judged.due("greater", x.answered(1), 114);
        Judged.due("callers of both", Judged.ask(x, "callers(A.b48 | A.b0)"), 2);
        Judged.due("into", Judged.ask(x, "into(A.b48 | A.b0 | String) - main"), 4);
        Judged.due("of it", Judged.ask(x, "(A.b48 | A.a48) & (A.a48 | Object)"), 1);
        Judged.due("that", x.answered(0), 113);
        // one instruction that calls many
        text = times("class K# extends K { method void m() { return; } } ", 18) + "class K { method void m() { return; } static field K k; } " + "class L { " + times("static method void x#() { return; } ", 60) + "} class Main { static method void main() { " + times("new K#; putstatic K.k; ", 18) + "getstatic K.k; virtual void K.m(); return; } }";
        x = of(0, text);
        int call = x.count(6) - 2;
        Judged.due("calls", x.calls(call, false, -1), 18);
        for (int k = 0; k < 18; k++) {
            Judged.due("k-th", x.calls(call, false, k), 17 + k);
        }
        x = of(0, "class L { " + times("static method void x#() { return; } ", 70) + "} " + times("class K# extends K { method void m() { return; } } ", 18) + "class K { static field K k; method void m() { return; } } class Main { static method void main() { " + times("new K#; putstatic K.k; ", 18) + "getstatic K.k; virtual void K.m(); return; } }");
        call = x.count(6) - 2;
        Judged.due("calls", x.calls(call, false, -1), 18);
        for (int k = 0; k < 18; k++) {
            Judged.due("k-th", x.calls(call, false, k), 87 + k);
        }
        Judged.due("no more", x.calls(call, false, 18), -1);
        Judged.due("x's are not reached", Judged.ask(x, "L & reached"), 0);
        Judged.due("others are", Judged.ask(x, "reached"), 19);
    }

    /** 300 instances, of which a thread runs some. */
    private static void manyInstances() {
        String text = "class A { static method void m() { push 1; putstatic Main.n; return; } } class B { static method void b0() { " + times("call void A.m(); ", 100) + "return; } static method void b1() { " + times("call void A.m(); ", 100) + "return; } } "
            + "class T extends Thread { method void run() { call void B.b0(); return; } } class Main { static field int n; static method void main() { new T; virtual void Thread.start(); call void B.b1(); " + times("call void A.m(); ", 94) + "return; } }";
        ThreadJudge x = of(1, text);
        // main, run, uncaught, b0, b1, and 294 of m
        Judged.due("instances", x.count(8), 299);
        Judged.due("of m", x.reached(17, 0), 294);
        Judged.due("thread 0", x.thread(0, 2), 1 + 1 + 100 + 94);
        Judged.due("thread 1", x.thread(1, 2), 1 + 1 + 1 + 100);
        Judged.due("m with m", x.parallel(15, 15), 1);
        Judged.due("a race", x.count(12), 1);
        String later = text.replace("new T; virtual void Thread.start(); call void B.b1();", "call void B.b1();");
        x = of(1, later.substring(0, later.lastIndexOf("return;")) + "new T; virtual void Thread.start(); return; } }");
        Judged.due("started behind all calls", x.parallel(15, 15), 0);
    }

    /** A method with a great number that is started, and what starts it. */
    private static void startedOfMany() {
        String many = times("class M# { " + times("method void a@#() { return; } ".replace("@", "_"), 12) + "} ", 5);
        String t = "class T extends Thread { method void run() { call void T.r(); return; } static method void r() { return; } method void uncaught(Throwable) { call void T.u(); return; } static method void u() { return; } } ";
        ThreadJudge x = of(0, many + t + Judged.main("class S { static method void s() { new T; virtual void Thread.start(); return; } } ", "call void S.s(); return;"));
        int run = 17 + 60;
        // run, r, uncaught, u, s, main
        Judged.due("way to u", x.way(run + 3, -1), 3);
        Judged.due("by main", x.way(run + 3, 0), x.method(run + 5, 3));
        Judged.due("then s", x.way(run + 3, 1), x.method(run + 4, 3) + 1);
        Judged.due("then uncaught", x.way(run + 3, 2), x.method(run + 2, 3));
        Judged.due("starting", Judged.ask(x, "starting"), 1);
        Judged.due("that is s", x.answered(0), run + 4);
        Judged.due("callers of run", Judged.ask(x, "callers(T.run)"), 1);
        Judged.due("that is s", x.answered(0), run + 4);
        Judged.due("callees of s", Judged.ask(x, "callees(S)"), 2);
        Judged.due("run", x.answered(0), run);
        Judged.due("uncaught", x.answered(1), run + 2);
        Judged.due("into u", Judged.ask(x, "into(T.u)"), 4);
        Judged.due("from s", Judged.ask(x, "from(S)"), 5);
        Judged.due("starts of it", x.calls(x.way(run + 3, 1), true, -1), 2);
        Judged.due("run first", x.calls(x.way(run + 3, 1), true, 0), run);
        Judged.due("starts, not calls", x.calls(x.way(run + 3, 1), false, -1), 0);
        // only uncaught is started
        x = of(0, many + "abstract class T extends Thread { abstract method void run(); } class U extends T { method void uncaught(Throwable) { return; } } " + Judged.main("", "new U; virtual void Thread.start(); return;"));
        Judged.due("uncaught alone", x.calls(x.count(6) - 2, true, -1), 1);
        Judged.due("that", x.calls(x.count(6) - 2, true, 0), run + 1);
        Judged.due("main is starting", Judged.ask(x, "starting"), 1);
        Judged.due("main", x.answered(0), run + 2);
        Judged.due("way", x.way(run + 1, -1), 1);
        Judged.due("thread 1", x.thread(1, 2), 1);
        // nothing is: the thread is one all the same
        x = of(0, many + "abstract class T extends Thread { abstract method void run(); abstract method void uncaught(Throwable); } class U extends T { } " + Judged.main("", "new U; virtual void Thread.start(); return;"));
        Judged.due("none started", x.calls(x.count(6) - 2, true, -1), 0);
        Judged.due("threads", x.count(10), 2);
        Judged.due("runs none", x.thread(1, 2), 0);
        Judged.due("nobody is starting", Judged.ask(x, "starting"), 0);
    }

    /** 100 threads that there may be. */
    private static void manyThreads() {
        String starts = times("new T; virtual void Thread.start(); ", 39);
        ThreadJudge x = of(0, "class T extends Thread { method void run() { push 1; pop; return; } } class M { static method void m() { " + starts + "return; } static method void n() { " + starts + "return; } } class Main { static method void main() { call void M.m(); call void M.n(); new T; virtual void Thread.start(); return; } }");
        Judged.due("threads", x.count(10), 80);
        for (int t = 1; t < 80; t++) {
            Judged.due("object of " + t, x.thread(t, 0), t - 1);
            Judged.due("thread of its object", x.object(t - 1, 5), t);
            Judged.due("single", x.thread(t, 1), 1);
            Judged.due("runs", x.thread(t, 2), 2);
        }
        Judged.due("no more", x.thread(80, 0), -1);
        Judged.due("run with itself", x.parallel(14, 14), 1);
        Judged.due("main ahead of all starts", x.parallel(x.count(6) - 5, 14), 1);
        // one thread of its own class behind many others
        x = of(0, "class T extends Thread { } class U extends Thread { method void run() { return; } } class M { static method void m() { " + starts + "return; } static method void n() { " + starts + "return; } } class Main { static method void main() { call void M.m(); call void M.n(); new U; virtual void Thread.start(); return; } }");
        Judged.due("threads", x.count(10), 80);
        int last = x.count(6) - 1;
        Judged.due("main before U", x.parallel(last - 1, 14), 0);
        Judged.due("main behind its start", x.parallel(last, 14), 1);
        Judged.due("U with itself", x.parallel(14, 14), 0);
        Judged.due("U with the others", x.parallel(14, 6), 1);
    }

    /** What is before and behind a thread, where MAIN is long. */
    private static void longMain() {
        String t = "class T extends Thread { method void run() { return; } } class W { static method void w() { return; } } ";
        for (int more = 0; more <= 48; more += 6) {
            String lines = times("push 1; pop; ", more) + "new T; store 1; load 1; virtual void Thread.start(); " + times("push 1; pop; ", 48 - more) + "load 1; virtual void Thread.join(); call void W.w(); push 1; pop; return;";
            ThreadJudge x = of(0, Judged.main(t, lines));
            int first = x.method(19, 3);
            int start = first + more * 2 + 3;
            int join = first + 96 + 5;
            for (int i = first; i < x.count(6); i++) {
                Judged.due("instruction " + (i - first) + " of " + more, x.parallel(i, 14), i > start && i <= join ? 1 : 0);
            }
            Judged.due("w is behind", x.parallel(15, 14), 0);
            x = of(0, Judged.main(t, lines.replace("call void W.w(); push 1;", "push 1;").replaceFirst("push 1; pop;", "call void W.w();")));
            Judged.due("w between or before", x.parallel(15, 14), more == 0 ? 1 : 0);
        }
    }

    /** Ways from one instruction to another that is far. */
    private static void longWays() {
        for (int at = 0; at < 56; at += 5) {
            String lines = times("push 1; pop; ", at) + "L: new A; pop; " + times("push 1; pop; ", 55 - at) + "push 1; ifeq L; new A; pop; return;";
            ThreadJudge x = of(0, Judged.main("class A { } ", lines));
            Judged.due("in the loop " + at, x.object(0, 3), 0);
            Judged.due("behind it " + at, x.object(1, 3), 1);
            lines = times("push 1; pop; ", at) + "new A; pop; L: " + times("push 1; pop; ", 55 - at) + "push 1; ifeq L; new A; pop; return;";
            x = of(0, Judged.main("class A { } ", lines));
            Judged.due("before it " + at, x.object(0, 3), 1);
            Judged.due("behind it " + at, x.object(1, 3), 1);
        }
    }

    /** Of 100 objects one that is held. */
    private static void heldOfMany() {
        String makes = times("new Object; pop; ", 59);
        ThreadJudge x = of(0, "class M { static method void m() { " + makes + "return; } } " + Judged.main("", times("new Object; pop; ", 50) + "new Object; store 1; load 1; enter; load 1; virtual void Object.wait(); null; exit; return;"));
        int wait = x.count(6) - 4;
        Judged.due("objects", x.count(9), 51 + 2);
        Judged.due("held", x.held(wait, true, 0), 50);
        x = of(0, "class M { static method void m() { " + makes + "return; } } " + Judged.main("", "call void M.m(); " + times("new Object; pop; ", 50) + "new Object; store 1; load 1; enter; load 1; virtual void Object.wait(); null; exit; return;"));
        wait = x.count(6) - 4;
        Judged.due("objects", x.count(9), 110 + 2);
        Judged.due("held", x.held(wait, true, 0), 109);
        Judged.due("alone", x.held(wait, true, -1), 1);
        Judged.due("may be held", x.held(wait, false, 0), 109);
        Judged.due("rash, not loose", x.waits(0, 1), 2);
    }

    /** Knots of objects with great numbers. */
    private static void knotsOfMany() {
        String makes = times("new Object; pop; ", 50);
        String both = "static method void go(Object, Object) { load 0; enter; load 1; enter; null; exit; null; exit; return; } ";
        ThreadJudge x = of(1, "class M { static method void m() { " + makes + "return; } static method void n() { " + makes + "return; } } class Main { " + both + "static method void main() { call void M.m(); call void M.n(); new Object; store 1; new Object; store 2; new Thread; virtual void Thread.start(); load 1; load 2; call void Main.go(Object, Object); load 2; load 1; call void Main.go(Object, Object); return; } }");
        Judged.due("knots", x.count(13), 2);
        Judged.due("o", x.knot(0, 1), 100);
        Judged.due("p", x.knot(0, 2), 101);
        Judged.due("o", x.knot(1, 1), 101);
        Judged.due("p", x.knot(1, 2), 100);
        // a ring of 70 strings' worth: each holds one and wants the next
        StringBuilder ring = new StringBuilder();
        for (int k = 0; k < 32; k++) {
            ring.append("string \"").append(k).append("\"; string \"").append((k + 1) % 32).append("\"; call void Main.go(Object, Object); ");
        }
        x = of(1, "class Main { " + both + "static method void main() { new Thread; virtual void Thread.start(); " + ring + "return; } }");
        Judged.due("a ring of 32", x.count(13), 32);
        for (int k = 0; k < 32; k++) {
            Judged.due("o of " + k, x.object(x.knot(k, 1), 0), 2000 + k);
            Judged.due("p of " + k, x.object(x.knot(k, 2), 0), 2000 + (k + 1) % 32);
        }
        x = of(1, "class Main { " + both + "static method void main() { new Thread; virtual void Thread.start(); " + ring.substring(0, ring.lastIndexOf("string \"31\"; ")) + "return; } }");
        Judged.due("a row of 32", x.count(13), 0);
    }

    /** Races of instructions with great numbers. */
    private static void racesOfMany() {
        ThreadJudge x = of(0, times("class C# { static method void m() { " + times("return;", 119) + " } } ", 7) + "class T extends Thread { method void run() { push 1; putstatic Main.n; return; } } class Main { static field int n; static method void main() { new T; virtual void Thread.start(); push 1; pop; push 1; putstatic Main.n; push 1; putstatic Main.n; return; } }");
        int run = x.method(24, 3) + 1;
        int put = x.method(25, 3) + 5;
        Judged.due("two", x.count(12), 2);
        Judged.due("first", x.race(0, 0), run);
        Judged.due("with", x.race(0, 1), put);
        Judged.due("second", x.race(1, 0), run);
        Judged.due("with", x.race(1, 1), put + 2);
        Judged.yes("great numbers: " + put, put > 840);
        Judged.due("racing", Judged.ask(x, "racing"), 2);
        x.begin();
        x.run(2000, 1);
        Judged.due("clashes", x.count(21), 2);
        Judged.due("lesser", x.clash(0, 0), run);
        // of an object behind many others
        String makes = times("new Object; pop; ", 59);
        for (int many = 0; many < 2; many++) {
            String other = many == 0 ? "getstatic Main.k" : "new K";
            x = of(0, "class K { field int n; } class M { static method void m() { " + makes + "call void M.l(); return; } static method void l() { new K; putstatic Main.k; return; } } class T extends Thread { method void run() { getstatic Main.k; push 1; put K.n; return; } } class Main { static field K k; static method void main() { call void M.m(); " + times("new Object; pop; ", 30) + "new T; virtual void Thread.start(); " + other + "; push 1; put K.n; return; } }");
            Judged.due("objects", x.count(9), 59 + 30 + 2 + 2 + many);
            Judged.due("of one object, or of two", x.count(12), 1 - many);
        }
        // each with each: 30 writings in two threads
        x = of(0, "class T extends Thread { method void run() { " + times("push 1; putstatic Main.n; ", 30) + "return; } } class Main { static field int n; static method void main() { new T; virtual void Thread.start(); new T; virtual void Thread.start(); return; } }");
        Judged.due("each with each", x.count(12), 30 * 31 / 2);
        for (int k = 0; k < 30; k++) {
            Judged.due("of the first", x.race(k, 1), 15 + k * 2);
        }
        Judged.due("then", x.race(30, 0) * 1000 + x.race(30, 1), 17017);
        Judged.due("the last", x.race(464, 0) * 1000 + x.race(464, 1), 73073);
    }

    /** What is given and let go, each by its own method, of objects behind many others. */
    private static void givenAndLetGoOfMany() {
        String makes = times("new Object; pop; ", 40);
        String k = "class K { static method void m() { " + makes + "return; } " + times("static method void t#() { new E#; throw; } static method Object g#() { new Object; give; } ", 8) + "} " + times("class E# extends Throwable { } ", 8);
        String calls = times("call void K.t#(); call Object K.g#(); pop; ", 8);
        String text = k + Judged.main("", times("new Object; pop; ", 30) + "call void K.m(); A: " + calls + "B: return; " + times("H#: return; ", 8) + times("catch E# A B H#; ", 8));
        for (int policy = 0; policy < 2; policy++) {
            ThreadJudge x = of(policy, text);
            int main = x.method(x.count(5) - 1, 3);
            int last = x.count(6) - 8;
            Judged.due("objects", x.count(9), 30 + 40 + 16 + 1);
            for (int n = 0; n < 8; n++) {
                int t = x.method(18 + n * 2, 3);
                int behind = main + 61 + n * 3 + 2;
                Judged.due("given by " + n, x.holds(behind, 10, -1), 1);
                Judged.due("site", x.object(x.holds(behind, 10, 0), 0), t + 2);
                Judged.due("let go by " + n, x.holds(last + n, 10, -1), 1);
                Judged.due("site", x.object(x.holds(last + n, 10, 0), 0), t);
            }
        }
    }

    /** STRINGS, CLASSES, METHODS with great numbers, as objects and as things. */
    private static void stringsClassesMethods() {
        String text = "class A { " + times("method void a#() { return; } ", 29) + "} " + times("class C# { } ", 22) + "class Main { static method void main() { " + times("string \"C#\"; call Class Class.named(String); pop; ", 22).replace("C21", "A") + times("string \"a@\"; pop; ".replace("@", "1#"), 9) + "string \"A\"; call Class Class.named(String); string \"a18\"; virtual Method Class.find(String); return; } }";
        ThreadJudge x = of(0, text);
        Judged.due("classes", x.count(3), 43);
        Judged.due("strings", x.count(7), 31);
        for (int k = 0; k < 21; k++) {
            Judged.due("CLASS", x.object(x.holds(x.method(46, 3) + k * 3 + 2, 10, 0), 0), 3020 + k);
            Judged.due("begins", x.begins(20 + k), 1);
        }
        Judged.due("METHOD", x.object(x.holds(x.count(6) - 1, 10, 0), 0), 4017 + 18);
        x.begin();
        x.run(500, 1);
        Judged.due("things", x.count(18), 31 + 22 + 1);
        Judged.due("a CLASS", x.thing(3, 1), 3021);
        Judged.due("the METHOD", x.thing(53, 1), 4035);
        Judged.due("began", x.count(23), 22 + 3 + 1 - 1);
        Judged.yes("foreseen", x.foreseen());
    }

    /** "or more than 4,000 instructions in all instances together (of each all of its method)" and "more than 480 objects", to the last one. */
    private static void fourThousand() {
        // 39 calls of a method of 100 instructions, and main
        for (int more = 0; more < 3; more++) {
            String text = "class A { static method void m() { " + times("push 1; pop; ", 49) + "goto L; L: return; } } "
                + Judged.main("", times("call void A.m(); ", 39) + times("push 1; pop; ", 29) + "return; " + times("return; ", 1 + more));
            ThreadJudge x = Judged.loaded(text);
            boolean much = more == 2;
            Judged.due("instances of " + more, x.analyse(1, 300), much ? 2 : 40);
            Judged.due("degraded " + more, x.count(16), much ? 1 : 0);
            Judged.due("instructions " + more, x.count(11), much ? 100 + 101 : 3999 + more);
            x.analyse(0, 300);
            Judged.due("by 0 not degraded", x.count(16), 0);
        }
    }
}
