/** Promises 1 to 4: a new object, feed and end, change and clear, load and count; and the faults 1 to 3. */
public final class TextTest {
    private static final String MAIN = "class Main { static method void main() { return; } }";

    public static void main(String[] args) {
        newObject();
        feedAndEnd();
        changeAndClear();
        loadAndCount();
        tokens();
        grammar();
        limits();
        Judged.end();
    }

    private static void newObject() {
        ThreadJudge x = new ThreadJudge();
        for (int what = 0; what <= 24; what++) {
            Judged.due("new count(" + what + ")", x.count(what), what == 1 ? -1 : 0);
        }
        Judged.due("count(25)", x.count(25), -1);
        Judged.due("count(-1)", x.count(-1), -1);
        Judged.due("answer", x.answer(), -1000);
        Judged.due("answered", x.answered(0), -1);
        Judged.due("BAD", ThreadJudge.BAD, -1);
        Judged.due("end of nothing", x.end(20), -1);
        Judged.due("begin", x.begin() ? 1 : 0, 0);
        Judged.due("foreseen", x.foreseen() ? 1 : 0, 1);
    }

    private static void feedAndEnd() {
        ThreadJudge x = new ThreadJudge();
        for (int k = 1; k <= 600; k++) {
            Judged.due("feed " + k, x.feed(k, -1, 0x01020304, 0, 0x7fffffff), k * 20);
        }
        Judged.due("feed too much", x.feed(1, 2, 3, 4, 5), -1);
        Judged.due("end(21)", x.end(21), -1);
        Judged.due("end(-1)", x.end(-1), -1);
        Judged.due("end(20)", x.end(20), 12000);
        Judged.due("end(19)", x.end(19), 11999);
        Judged.due("feed over", x.feed(1, 2, 3, 4, 5), -1);
        Judged.due("end(0)", x.end(0), 11979);
        Judged.due("feed again", x.feed(1, 2, 3, 4, 5), 11999);
        Judged.due("count(2)", x.count(2), 11999);
        Judged.due("to 11,980", x.end(1), 11980);
        Judged.due("just full", x.feed(1, 2, 3, 4, 5), 12000);
        Judged.due("to 11,981", x.end(1), 11981);
        Judged.due("one too many", x.feed(1, 2, 3, 4, 5), -1);
        Judged.due("stays", x.count(2), 11981);
        Judged.due("the last byte stays", x.change(11980, 9), 0);
        ThreadJudge y = new ThreadJudge();
        y.feed(0x61626364, 0x80ff0102, 0, 0, 0x7a);
        Judged.due("byte 0", y.change(0, 0), 0x61);
        Judged.due("byte 3", y.change(3, 0), 0x64);
        Judged.due("byte 4", y.change(4, 0), 0x80);
        Judged.due("byte 5", y.change(5, 255), 255);
        Judged.due("byte 19", y.change(19, 1), 0x7a);
        Judged.due("end(5)", y.end(5), 5);
        Judged.due("fewer than twenty", y.end(5), -1);
    }

    private static void changeAndClear() {
        ThreadJudge x = new ThreadJudge();
        x.feed(0x20202020, 0x20202020, 0x20202020, 0x20202020, 0x20202020);
        Judged.due("change", x.change(7, 65), 32);
        Judged.due("changed", x.change(7, 66), 65);
        Judged.due("no byte", x.change(20, 66), -1);
        Judged.due("no byte -1", x.change(-1, 66), -1);
        Judged.due("no number", x.change(7, 256), -1);
        Judged.due("no number -1", x.change(7, -1), -1);
        Judged.due("unchanged", x.change(7, 66), 66);
        Judged.due("clear", x.clear(), 20);
        Judged.due("clear again", x.clear(), 0);
        Judged.due("nothing", x.change(0, 0), -1);
    }

    private static void loadAndCount() {
        ThreadJudge x = Judged.loaded("class A { field int a; static field A b; } " + Judged.main("",
            "string \"x\"; pop; string \"y\"; pop; string \"x\"; pop; return;"));
        Judged.due("classes", x.count(3), 21);
        Judged.due("fields", x.count(4), 3);
        Judged.due("methods", x.count(5), 18);
        Judged.due("instructions", x.count(6), 21);
        Judged.due("strings", x.count(7), 2);
        x.analyse(0, 300);
        x.begin();
        x.run(100, 1);
        Judged.due("steps", x.count(17), 7);
        int n = x.clear();
        Judged.due("what is at hand stays", x.count(3), 21);
        Judged.due("text is gone", x.count(2), 0);
        Judged.feed(x, "class");
        Judged.due("analysed stays", x.count(8), 1);
        Judged.due("load of half a class", x.load(), 2);
        Judged.due("place", x.count(1), 5);
        Judged.due("text stays", x.count(2), 5);
        for (int what = 3; what <= 24; what++) {
            Judged.due("nothing at hand " + what, x.count(what), 0);
        }
        Judged.due("no method", x.method(0, 0), -1);
        x.clear();
        Judged.feed(x, MAIN);
        Judged.due("load again", x.load(), 0);
        Judged.due("count(0)", x.count(0), 0);
        Judged.due("count(1)", x.count(1), -1);
        Judged.yes("text was long", n > 90);
    }

    private static void line(String line) {
        Judged.fine(Judged.main("", line + " return;"));
    }

    private static void wrongLine(int fault, String line) {
        Judged.fault(fault, Judged.main("", line + " return;"));
    }

    private static void tokens() {
        Judged.fine("\t\r\n #{ remark\n" + MAIN + "# end");
        Judged.fault(1, "@%");
        Judged.fault(1, MAIN + "@>");
        Judged.fault(1, "class @A23456789012345678901234567890 { }");
        Judged.fine("class A23456789012345678901234 { } " + MAIN);
        Judged.fine("class <a>_9 { } " + MAIN);
        line("push 2147483647; push -2147483648; pop; pop;");
        line("push 0000000000000000000012; pop;");
        wrongLine(1, "push @2147483648; pop;");
        wrongLine(1, "push @-2147483649; pop;");
        wrongLine(1, "push @99999999999999999999999999; pop;");
        wrongLine(1, "push @-; pop;");
        wrongLine(1, "push 12@a; pop;");
        wrongLine(1, "push 12@_; pop;");
        wrongLine(2, "push 12@<a; pop;");
        wrongLine(2, "pop @12a; pop;");
        wrongLine(2, "push 12@-3; pop;");
        line("string \"123456789012345678901234\"; pop; string \"\"; pop; string \"# ' {\"; pop;");
        wrongLine(1, "string @\"1234567890123456789012345\"; pop;");
        wrongLine(1, "string @\"a\nb\"; pop;");
        wrongLine(1, "string @\"a; pop;");
        wrongLine(1, "string @\"\u00e4\"; pop;");
        wrongLine(1, "push @\u00e4; pop;");
        wrongLine(1, "pop @\"\n;");
        Judged.fault(1, "class @'A");
        Judged.fault(2, "class @\"A\"");
    }

    private static void grammar() {
        Judged.fault(2, "@{");
        Judged.fault(2, "class A {");
        Judged.fault(2, "class A { # }");
        Judged.fault(2, "class @class { }");
        Judged.fault(2, "class @push { }");
        Judged.fault(2, "class @int { }");
        Judged.fault(2, "@static class A { }");
        Judged.fine("abstract excluded abstract class A { } " + MAIN);
        Judged.fault(2, "class A implements B @extends C { }");
        Judged.fault(2, "class A implements B, @{ }");
        Judged.fault(2, "class A { field int [@;; }");
        Judged.fault(2, "class A { field int[] a @, b; }");
        Judged.fault(2, "class A { @excluded field int a; }");
        Judged.fault(2, "class A { static @}");
        Judged.fault(2, "class A { method void m(int @int); }");
        Judged.fault(2, "class A { method void m(int,@) ; }");
        Judged.fault(2, "class A { method void m() @field int a; }");
        Judged.fault(2, "class A { method @static void m() ; }");
        wrongLine(2, "L@;");
        wrongLine(2, "return@:");
        wrongLine(2, "goto @push;");
        wrongLine(2, "goto @5;");
        wrongLine(2, "load @L;");
        wrongLine(2, "inc 1@;");
        wrongLine(2, "get Main@;");
        wrongLine(2, "get Main.@get;");
        wrongLine(2, "virtual void Main.m@;");
        wrongLine(2, "virtual Main@.m();");
        wrongLine(2, "lambda Main Main@.m();");
        wrongLine(2, "catch A B C@;");
        wrongLine(2, "catch A B C D @E;");
        wrongLine(2, "array int@,;");
        wrongLine(2, "@static;");
        Judged.fault(2, MAIN + " @}");
    }

    private static String times(String what, int n) {
        StringBuilder all = new StringBuilder();
        for (int k = 0; k < n; k++) {
            all.append(what.replace("#", "" + k));
        }
        return all.toString();
    }

    private static void limits() {
        Judged.fine(times("class A# { } ", 23) + MAIN);
        Judged.fault(3, times("class A# { } ", 24) + "class @Main { }");
        Judged.fine("class A { " + times("field int a#; ", 39) + "} " + MAIN);
        Judged.fault(3, "class A { " + times("field int a#; ", 39) + " field int[] @b; } " + MAIN);
        Judged.fine("class A { " + times("method void a#() { return; } ", 99) + "} " + MAIN);
        Judged.fault(3, "class A { " + times("method void a#() { return; } ", 100) + "} class Main { static method void @main() { return; } }");
        Judged.fine(Judged.main("", times("push 1; pop; ", 59) + " goto L; L: return;"));
        Judged.fault(3, Judged.main("", times("push 1; pop; ", 60) + " L: @return; push 1;"));
        Judged.fine(Judged.main("class A { " + times("static method void m#() { " + times("push 1; pop; ", 49) + "push 1; return; } ", 9) + "}", times("push 1; pop; ", 49) + " return;"));
        Judged.fault(3, Judged.main("class A { " + times("static method void m#() { " + times("push 1; pop; ", 49) + "push 1; return; } ", 10) + "}", " @return;"));
        String news = "static method void m#() { " + times("new A; pop; ", 20) + times("push 1; array A; pop; ", 10) + "return; } ";
        Judged.fine(Judged.main("class A { " + times(news, 4) + "}", " return;"));
        Judged.fault(3, Judged.main("class A { " + times(news, 4) + "}", " @new A; pop; return;"));
        Judged.fault(3, Judged.main("class A { " + times(news, 4) + "}", " push 1; @array A; pop; return;"));
        Judged.fault(3, Judged.main("class A { " + times(news, 4) + "}", " @lambda A void A.m0(); pop; return;"));
        String caught = "A: push 1; pop; B: return; H: pop; return; ";
        Judged.fine(Judged.main("", caught + times("catch Throwable A B H; ", 8)));
        Judged.fault(3, Judged.main("", caught + times("catch Throwable A B H; ", 8) + "@catch Throwable A B H; "));
        Judged.fine(times("interface I# { } ", 6) + "class B implements I0, I1, I2, I3, I4, I5 { } " + MAIN);
        Judged.fault(3, times("interface I# { } ", 7) + "class B implements I0, I1, I2, I3, I4, I5, @I6 { } " + MAIN);
        Judged.fault(3, "class B { static method void m(int, int, int, int, int, int, @int[]) { return; } } " + MAIN);
        Judged.fault(2, "class B { static method void m(int, int, int, int, int, int, @3) { return; } } " + MAIN);
        Judged.fine("class B { static method void m(int, int, int, int, int, int) { return; } } " + MAIN);
        Judged.fault(3, Judged.main("", "call void B.m(int, int, int, int, int, int, @void); return;"));
        Judged.fine(Judged.main("", times("string \"#\"; pop; ", 32) + " string \"5\"; return;"));
        Judged.fault(3, Judged.main("", times("string \"#\"; pop; ", 32) + " string @\"32\"; return;"));
    }
}
