/** Programs as large as they may be: the last instruction, node, object, thing, thread and frame. */
public final class LimitsTest {
    public static void main(String[] args) {
        nodes();
        objects();
        instances();
        code();
        hooks();
        lastInstructions();
        lastStringsClassesMethods();
        clashesFarApart();
        things();
        threads();
        Judged.end();
    }

    private static String times(String what, int n) {
        StringBuilder all = new StringBuilder();
        for (int k = 0; k < n; k++) {
            all.append(what.replace("#", "" + k));
        }
        return all.toString();
    }

    /** All that is told of a program, and some runs of it. */
    private static void askAll(ThreadJudge x) {
        for (int i = 0; i < x.count(6); i++) {
            for (int place = -1; place < 19; place++) {
                x.holds(i, place, 0);
                x.kind(i, place, -2);
            }
            x.held(i, true, 0);
            x.held(i, false, 0);
            x.parallel(i, x.count(6) - 1);
            x.calls(i, true, 0);
        }
        for (int o = 0; o < x.count(9); o++) {
            for (int f = -7; f < x.count(4); f++) {
                x.field(o, f, -1);
            }
            Judged.yes("site", x.object(o, 0) >= 0);
        }
        for (int m = 0; m < x.count(5); m++) {
            x.way(m, 0);
        }
        for (int k = 0; k < 3; k++) {
            x.begin();
            x.run(2000, k);
            x.run(2000, k);
            Judged.yes("foreseen", x.foreseen());
        }
    }

    /** 3,990 nodes and one instance too many; the stack is full at the last instruction but eight. */
    private static void nodes() {
        String full = times("push 1; pop; ", 51) + "push 1; push 1; push 1; push 1; push 1; push 1; push 1; push 1; goto L; L: pop; pop; pop; pop; pop; pop; pop; pop; return; ";
        for (int calls = 32; calls <= 34; calls++) {
            ThreadJudge x = Judged.loaded(Judged.main("class A { static method void m() { " + full + "} }", times("call void A.m(); ", calls) + "return;"));
            int n = x.method(17, 4);
            Judged.due("lines of m", n, 120);
            boolean much = calls * 120 + calls + 1 > 4000;
            Judged.due("instances", x.analyse(1, 300), much ? 2 : calls + 1);
            Judged.due("degraded", x.count(16), much ? 1 : 0);
            Judged.due("nodes", x.count(11), much ? 120 + calls + 1 : calls * 120 + calls + 1);
            askAll(x);
        }
    }

    /** Sites of A.m by contexts: as many as there may be, and one more. */
    private static void objects() {
        for (int more = 0; more < 2; more++) {
            String makes = times("new Object; pop; ", 58);
            String text = "class A { static method void k() { " + times("new Object; pop; ", more) + "return; } method void m() { " + makes + "return; } } "
                + Judged.main("", times("new A; virtual void A.m(); ", 8) + "string \"a\"; pop; " + times("call void A.k(); ", more) + times("string \"b#\"; pop; ", 6) + "return;");
            ThreadJudge x = Judged.loaded(text);
            x.analyse(2, 300);
            // 58 by 8, 8 receivers, 7 strings, NullPointer: 480
            Judged.due("objects", x.count(9), more == 0 ? 480 : 58 + 8 + 7 + 1 + 1);
            Judged.due("degraded", x.count(16), more);
            askAll(x);
        }
    }

    private static void instances() {
        String body = "return; ";
        String text = "class A { static method void m() { " + body + "} } class B { " + times("static method void b#() { " + times("call void A.m(); ", 60) + "return; } ", 5) + "} "
            + Judged.main("", "call void B.b0(); call void B.b1(); call void B.b2(); call void B.b3(); call void B.b4(); return;");
        ThreadJudge x = Judged.loaded(text);
        Judged.due("306 are too many", x.analyse(1, 300), 7);
        Judged.due("degraded", x.count(16), 1);
        text = text.replace("call void B.b4(); ", "") .replace("call void B.b3(); ", "call void B.b3(); " + times("call void A.m(); ", 55));
        x = Judged.loaded(text);
        Judged.due("just 300", x.analyse(1, 300), 300);
        Judged.due("not degraded", x.count(16), 0);
        askAll(x);
        Judged.due("299 granted", Judged.loaded(text).analyse(1, 299), 6);
    }

    private static void code() {
        String text = "class A { " + times("field int f#; ", 39) + times("static method void m#() { " + times("null; null; null; null; null; null; null; null; goto L#; L#: pop; pop; pop; pop; pop; pop; pop; pop; ", 6) + "return; } ", 9) + "} "
            + Judged.main("", times("push 2; pop; ", 26) + "return;");
        ThreadJudge x = Judged.loaded(text);
        Judged.due("fields", x.count(4), 40);
        x.analyse(3, 300);
        askAll(x);
        // the last field, and none behind it
        String fields = "class A { " + times("field int f#; ", 38) + "static field int last; } ";
        x = Judged.loaded(fields + Judged.main("", "new A; push 7; putstatic A.last; pop; return;"));
        x.analyse(0, 300);
        Judged.due("no field 40 holds anything", x.field(0, 40, -1), -1);
        Judged.due("a static one", x.field(-1, 39, -1), 0);
        x.begin();
        x.run(5, 1);
        Judged.due("the last field", x.value(-1, 39), 7);
        Judged.due("a field of the thing", x.value(0, 38), 0);
        Judged.due("no field 40", x.value(0, 40), -1);
        Judged.fault(12, fields + Judged.main("", "new A; @get A.g; pop; return;"));
        Judged.fault(12, fields + Judged.main("", "@getstatic A.g; pop; return;"));
    }

    /** "hook: it is noted": as many as there are things; "if that would be more than 12 threads, none of them does, and the run is FULL". */
    private static void hooks() {
        String lines = "L: new Thread; call void Runtime.hook(Thread); inc 1 -1; load 1; ifgt L; return;";
        for (int n : new int[] {1, 11, 12, 150, 400}) {
            ThreadJudge x = Judged.loaded(Judged.main("", "push " + n + "; store 1; " + lines));
            x.analyse(0, 300);
            x.begin();
            int steps = 2 + n * 5 + 1;
            int done = x.run(2000, n) + (steps > 2000 ? x.run(steps - 2000, n) : 0);
            Judged.due("things of " + n, x.count(18), n);
            Judged.due("steps of " + n, n > 11 ? done : 0, n > 11 ? steps : 0);
            Judged.due("threads of " + n, x.count(19), n > 11 ? 1 : 1 + n);
            Judged.due("full by " + n, x.count(24), n > 11 ? 1 : 0);
            Judged.yes("foreseen with " + n, x.foreseen());
        }
    }

    /** "1,000 instructions": races, clashes, knots and calls of wait() of the first and the last ones. */
    private static void lastInstructions() {
        String run = "method void run() { push 1; putstatic Main.n; string \"b\"; enter; string \"a\"; enter; string \"a\"; exit; string \"b\"; exit; return; } } ";
        String lines = "new T; virtual void Thread.start(); new U; virtual void Thread.start(); ";
        String ends = "string \"a\"; enter; string \"b\"; enter; string \"b\"; exit; string \"a\"; virtual void Object.wait(); string \"a\"; exit; push 1; putstatic Main.n; return;";
        // T's run 14 .., U's run 14 + 11 + 8 * 113 .., main's
        String fill = times("static method void f#() { " + times("null;pop;", 56) + "return; } ", 8);
        int main = 1000 - 22 - 8 * 113;
        String text = "class T extends Thread { " + run + "class F { " + fill + "} class U extends Thread { " + run + "class Main { static field int n; static method void main() { " + lines + "goto Z; Z: " + times("null;pop;", (main - 18) / 2) + ends + " } }";
        ThreadJudge x = Judged.loaded(text);
        Judged.due("instructions", x.count(6), 1014);
        x.analyse(1, 300);
        int[] writes = {15, 14 + 11 + 904 + 1, 1012};
        Judged.due("races", x.count(12), 3);
        for (int k = 0; k < 3; k++) {
            Judged.due("first of " + k, x.race(k, 0), writes[k < 2 ? 0 : 1]);
            Judged.due("second of " + k, x.race(k, 1), writes[k < 1 ? 1 : 2]);
            Judged.due("field of " + k, x.race(k, 2), 1);
        }
        Judged.due("no more", x.race(3, 0), -1);
        int[] enters = {19, 14 + 11 + 904 + 5, 1014 - 10};
        Judged.due("knots", x.count(13), 3);
        for (int k = 0; k < 3; k++) {
            Judged.due("knot " + k, x.knot(k, 0), enters[k]);
        }
        Judged.due("waits", x.count(14), 1);
        Judged.due("the call of wait()", x.waits(0, 0), 1014 - 6);
        Judged.due("rash", x.waits(0, 1), 2);
        Judged.due("the last with the first", x.parallel(1013, 14), 1);
        Judged.due("the last may hold nothing", x.held(1013, false, -1), 0);
        x = Judged.loaded(text);
        x.analyse(1, 300);
        x.begin();
        for (int t = 0; t < 3; t++) {
            for (int k = 0; k < 90 && x.step(t) == 1; k++) {
                continue;
            }
        }
        Judged.due("main sleeps", x.state(0, 0), 2);
        Judged.due("one clash", x.count(21), 1);
        Judged.due("of T", x.clash(0, 0), writes[0]);
        Judged.due("and U", x.clash(0, 1), writes[1]);
        Judged.yes("foreseen", x.foreseen());
        for (int draw = 0; draw < 3; draw++) {
            ThreadJudge y = Judged.loaded(text.replace("virtual void Object.wait();", "virtual void Object.notify();"));
            y.analyse(0, 300);
            y.begin();
            // main to its end, then U, then T
            for (int t : draw == 0 ? new int[] {0, 2, 1} : draw == 1 ? new int[] {0, 1, 2} : new int[] {0, 2}) {
                for (int k = 0; k < 90 && y.step(t) == 1; k++) {
                    continue;
                }
            }
            Judged.due("clashes", y.count(21), draw == 2 ? 1 : 3);
            Judged.due("first", y.clash(0, 0), draw == 1 ? writes[0] : writes[1]);
            Judged.due("with main", y.clash(0, 1), writes[2]);
            Judged.yes("foreseen", y.foreseen());
        }
    }

    /** The last of 32 STRINGS, of 43 CLASSES, of 117 METHODS, and the first ones, are one thing each, however often they come to be. */
    private static void lastStringsClassesMethods() {
        StringBuilder strings = new StringBuilder();
        for (int k = 0; k < 29; k++) {
            strings.append("string \"s").append(k).append("\"; pop; ");
        }
        String all = strings + "string \"Object\"; call Class Class.named(String); pop; string \"Z\"; call Class Class.named(String); dup; string \"m98\"; virtual Method Class.find(String); dup; null; virtual Object Method.invoke(Object); pop; pop; string \"m98\"; virtual Method Class.find(String); pop; ";
        String text = "class Main { static method void main() { push 0; store 1; L: " + all + "inc 1 1; load 1; push 2; cmplt L; return; } } " + times("class C# { } ", 22)
            + "class Z { " + times("static method void m#() {return;} ", 98) + "static method void m98() { push 98; call void Out.print(int); return; } }";
        ThreadJudge x = Judged.loaded(text);
        Judged.due("strings", x.count(7), 32);
        Judged.due("classes", x.count(3), 43);
        Judged.due("methods", x.count(5), 117);
        x.analyse(2, 300);
        x.begin();
        x.run(2000, 1);
        Judged.due("ended", x.state(0, 0), 4);
        Judged.due("things", x.count(18), 32 + 2 + 1);
        boolean[] told = new boolean[5000];
        for (int n = 0; n < x.count(18); n++) {
            Judged.yes("each once", !told[x.thing(n, 1)]);
            told[x.thing(n, 1)] = true;
        }
        for (int s = 0; s < 32; s++) {
            Judged.yes("STRING " + s, told[2000 + s]);
        }
        Judged.yes("the first CLASS", told[3000]);
        Judged.yes("the last CLASS", told[3042]);
        Judged.yes("the last METHOD", told[4116]);
        Judged.due("said", x.count(20), 2);
        Judged.due("by the last METHOD", x.said(0) * 100 + x.said(1), 9898);
        Judged.yes("foreseen", x.foreseen());
    }

    /** "each pair of instructions once": pairs of instructions that stand far apart are pairs of their own. */
    private static void clashesFarApart() {
        String rw = "getstatic Main.n; putstatic Main.n; ";
        for (int apart = 60; apart < 900; apart += 20) {
            StringBuilder fill = new StringBuilder();
            for (int rest = apart - 3; rest > 0; rest -= 119) {
                int n = Math.min(rest, 119) - 1;
                fill.append("static method void f").append(rest).append("() {").append(times("null;pop;", n / 2)).append(n % 2 == 1 ? "goto L;L:" : "").append("return;} ");
            }
            String text = "class T extends Thread { method void run() { " + rw + "return; } } class M { static method void one() { " + rw + "return; } " + fill + "static method void two() { " + rw + "return; } } "
                + "class Main { static field int n; static method void main() { new T; virtual void Thread.start(); call void M.one(); call void M.two(); return; } }";
            ThreadJudge x = Judged.loaded(text);
            Judged.due("apart", x.method(x.count(5) - 2, 3) - x.method(18, 3), apart);
            x.analyse(0, 300);
            x.begin();
            for (int t : new int[] {0, 0, 1, 1, 1}) {
                x.step(t);
            }
            x.run(100, 1);
            Judged.due("clashes of those " + apart + " apart", x.count(21), 6);
            int[][] due = {{15, 17}, {14, 18}, {15, 18}, {15, 17 + apart}, {14, 18 + apart}, {15, 18 + apart}};
            for (int k = 0; k < 6; k++) {
                Judged.due("lesser", x.clash(k, 0), due[k][0]);
                Judged.due("greater", x.clash(k, 1), due[k][1]);
            }
            Judged.due("races", x.count(12), 6);
            Judged.yes("foreseen", x.foreseen());
        }
    }

    private static void things() {
        ThreadJudge x = Judged.loaded(Judged.main("", "push 16; array Object; putstatic Main.r; L: push 16; array Object; dup; push 15; getstatic Main.r; setelement; dup; push 15; element; pop; putstatic Main.r; goto L;").replace("class Main {", "class Main { static field Object[] r;"));
        x.analyse(0, 300);
        x.begin();
        for (int k = 0; k < 4; k++) {
            x.run(2000, k);
        }
        Judged.due("things", x.count(18), 400);
        Judged.due("last element", x.value(399, -16), 398);
        Judged.due("no element", x.value(399, -17), -1);
        Judged.due("of the last", x.thing(399, 2), 16);
        askAll(x);
    }

    private static void threads() {
        String full = times("getstatic Main.o; ", 8);
        String text = Judged.main("class T extends Thread { method void run() { push 28; call void T.d(int); return; } static method void d(int) { getstatic Main.o; store 1; load 1; enter; load 0; ifle L; load 0; push 1; sub; call void T.d(int); M: load 1; exit; return; L: "
            + full + "goto K; K: virtual void Object.wait(); virtual void Object.notify(); pop; pop; pop; pop; pop; pop; goto M; } }",
            "new Object; putstatic Main.o; L: new T; virtual void Thread.start(); getstatic Main.n; push 1; add; dup; putstatic Main.n; push 11; cmplt L; N: getstatic Main.o; enter; getstatic Main.o; virtual void Object.notifyAll(); getstatic Main.o; exit; goto N;").replace("class Main {", "class Main { static field Object o; static field int n;");
        for (int draw = 0; draw < 6; draw++) {
            ThreadJudge x = Judged.loaded(text);
            x.analyse(0, 300);
            x.begin();
            for (int k = 0; k < 12; k++) {
                x.run(2000, draw * 31 + k);
                for (int t = 0; k % 3 == 2 && t < 12; t++) {
                    for (int what = 0; what < 5; what++) {
                        x.state(t, what);
                    }
                    x.local(t, 17);
                }
            }
            Judged.due("threads", x.count(19), 12);
            Judged.yes("foreseen", x.foreseen());
        }
    }
}
