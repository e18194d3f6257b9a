/** GRAMMAR: its productions, the table of instructions, FAULT 2, and each limit of FAULT 3. */
public final class GrammarTest {
    private static final String MAIN = "class Main { static method void main() { return; } }";
    /** The table: name, a right use behind it, and what is wanted, one word each. */
    private static final String[] TABLE = {
        "push 5", "string \"a\"", "null", "load 0", "store 0", "inc 0 1", "add", "sub", "mul", "div", "rem", "neg", "and", "or", "xor", "shl", "shr",
        "pop", "dup", "under", "swap", "goto L", "ifeq L", "ifne L", "iflt L", "ifge L", "ifgt L", "ifle L", "cmpeq L", "cmpne L", "cmplt L", "cmpge L",
        "cmpgt L", "cmple L", "same L", "other L", "ifnull L", "ifsome L", "get A . f", "put A . f", "getstatic A . s", "putstatic A . s", "new A",
        "array A", "element", "setelement", "length", "cast A [ ]", "is A", "virtual void A . m ( int , A [ ] )", "special void A . m ( int , A [ ] )",
        "call void A . c ( )", "lambda I void A . c ( )", "enter", "exit", "throw", "return", "give"};

    public static void main(String[] args) {
        classes();
        members();
        types();
        lines();
        table();
        firstThatCantCome();
        endsTooEarly();
        faultOneCountsIfAllBeforeCanCome();
        manyClasses();
        manyFields();
        manyMethods();
        manyInstructions();
        manyOfOneMethod();
        manyMakers();
        manyCatches();
        manyNamesBehindImplements();
        manyTypes();
        manyStrings();
        Judged.end();
    }

    private static String times(String what, int n) {
        StringBuilder all = new StringBuilder();
        for (int k = 0; k < n; k++) {
            all.append(what.replace("#", "" + k));
        }
        return all.toString();
    }

    /** "class: {'abstract' | 'excluded'} ('class' | 'interface') name ['extends' name] ['implements' name {',' name}] '{' {member} '}'." */
    private static void classes() {
        Judged.fault(13, "");
        Judged.fault(13, " # nothing\n ");
        Judged.fine(MAIN);
        Judged.fine("abstract class A { } excluded class B { } abstract excluded class C { } excluded abstract class D { } abstract abstract excluded excluded abstract class E { }" + MAIN);
        Judged.fine("class A extends B { } class B implements I { } class C extends B implements I, J { } interface I { } excluded interface J implements I { }" + MAIN);
        for (String word : "static volatile final synchronized field method catch int void extends implements push".split(" ")) {
            Judged.fault(2, "@" + word + " class A { }");
            Judged.fault(2, "abstract @" + word + " class A { }");
        }
        Judged.fault(2, "@A { }");
        Judged.fault(2, "abstract @A { }");
        Judged.fault(2, "class @abstract A { }");
        Judged.fault(2, "class class_ @class { }");
        Judged.fault(2, "class @{ }");
        Judged.fault(2, "class A @;");
        Judged.fault(2, "class A extends @{ }");
        Judged.fault(2, "class A extends B@, C { }");
        Judged.fault(2, "class A extends B @extends C { }");
        Judged.fault(2, "class A implements @{ }");
        Judged.fault(2, "class A implements I @J { }");
        Judged.fault(2, "class A implements I, @, J { }");
        Judged.fault(2, "class A implements I @implements J { }");
        Judged.fault(2, "class A implements I @extends B { }");
        Judged.fault(2, "class A { } @} " + MAIN);
        Judged.fault(2, "class A { @{ } }");
        Judged.fault(2, "class A { @; }");
        Judged.fault(2, "class A { @class B { } }");
    }

    /** "member: {'static' | 'volatile' | 'final' | 'abstract' | 'synchronized'} (field | method). field: 'field' type name ';'. method: .." */
    private static void members() {
        Judged.fine("abstract class A { static static volatile field int a; final static final field A b; abstract abstract method void m(); synchronized synchronized static method int n() { push 1; give; } method A[] o(A[], int) { null; give; } }" + MAIN);
        for (String word : "excluded class interface extends implements catch int void return".split(" ")) {
            Judged.fault(2, "class A { @" + word + " field int a; }");
            Judged.fault(2, "class A { static @" + word + " field int a; }");
        }
        Judged.fault(2, "class A { @a; }");
        Judged.fault(2, "class A { @int a; }");
        Judged.fault(2, "class A { static @}");
        Judged.fault(2, "class A { field @; }");
        Judged.fault(2, "class A { field @a.b; }".replace("@a.b", "a@.b"));
        Judged.fault(2, "class A { field int @; }");
        Judged.fault(2, "class A { field int a@, b; }");
        Judged.fault(2, "class A { field int a @b; }");
        Judged.fault(2, "class A { field int a@() { return; } }");
        Judged.fault(2, "class A { field @static int a; }");
        Judged.fault(2, "class A { method void m@; }");
        Judged.fault(2, "class A { method void m@{ } }");
        Judged.fault(2, "class A { method m@() { } }");
        Judged.fault(2, "class A { method void m(@; }");
        Judged.fault(2, "class A { method void m(@, int); }");
        Judged.fault(2, "class A { method void m(int@; }");
        Judged.fault(2, "class A { method void m(int @int); }");
        Judged.fault(2, "class A { method void m(int, @); }");
        Judged.fault(2, "class A { method void m(int @a); }");
        Judged.fault(2, "class A { method void m() @return; }");
        Judged.fault(2, "class A { method void m() { }@; }");
        Judged.fault(2, "class A { method void m(); @{ } }");
    }

    /** "type: (int | void | name) ['[' ']']." */
    private static void types() {
        Judged.fault(11, "class A { field void @a; }" + MAIN);
        Judged.fault(11, "class A { field void[] @a; }" + MAIN);
        Judged.fault(11, "class A { field Q[] @a; }" + MAIN);
        Judged.fine("class A { field int a; field int[] b; field A c; field A[] d; field main e; } class main { }" + MAIN);
        Judged.fault(2, "class A { field int[@int] a; }");
        Judged.fault(2, "class A { field int[@5] a; }");
        Judged.fault(2, "class A { field int[]@[] a; }");
        Judged.fault(2, "class A { field int@] a; }");
        Judged.fault(2, "class A { field @[] a; }");
        Judged.fault(2, "class A { field @class a; }");
        Judged.fault(2, "class A { field @5 a; }");
        Judged.fault(2, "class A { field @\"a\" a; }");
        Judged.fault(2, "class A { method void m(int[@) { } }");
        Judged.fault(2, "class A { method void m(@push) { } }");
        Judged.fault(2, "class A { method @static void m() { } }");
    }

    private static void wrong(int fault, String lines) {
        Judged.fault(fault, Judged.main("class A { field int f; static field int s; method void m(int, A[]) { return; } static method void c() { return; } } interface I { abstract method void i(); } ", lines + " return;"));
    }

    /** "line: name ':' | instruction ';' | 'catch' name name name name ';'" */
    private static void lines() {
        Judged.fine(Judged.main("", "a: b: push 1; c: pop; <d>: e>: return; H: pop; return; catch Throwable a <d> H; I:".replace("I:", "")));
        wrong(2, "a@;");
        wrong(2, "a @b: ");
        wrong(2, "a:@: ");
        wrong(2, "@: ");
        wrong(2, "@; ");
        wrong(2, "null;@; ");
        wrong(2, "null @null;");
        wrong(2, "null@: pop;");
        wrong(2, "@5: pop;");
        wrong(2, "@\"a\";");
        wrong(2, "@class: pop;");
        wrong(2, "@{ }");
        for (String word : "abstract excluded class interface extends implements static volatile final synchronized field method int void".split(" ")) {
            wrong(2, "@" + word + ";");
        }
        wrong(2, "catch@;");
        wrong(2, "catch A@;");
        wrong(2, "catch A B@;");
        wrong(2, "catch A B C@;");
        wrong(2, "catch A B C D @E;");
        wrong(2, "catch A, B C D;".replace(",", "@,"));
        wrong(2, "catch @int B C D;");
        wrong(2, "catch A B C @push;");
        wrong(2, "catch@: pop;");
    }

    /** "An instruction is its name and what it wants, from this table" */
    private static void table() {
        Judged.due("instructions", TABLE.length, 58);
        StringBuilder all = new StringBuilder();
        for (int op = 0; op < 58; op++) {
            String[] words = TABLE[op].split(" ");
            all.append(TABLE[op]).append("; ");
            for (int k = 1; k < words.length; k++) {
                StringBuilder less = new StringBuilder();
                for (int j = 0; j < k; j++) {
                    less.append(words[j]).append(' ');
                }
                boolean more = words[k].equals("[") || words[k].equals(",");
                if (!more) {
                    wrong(2, less + "@;");
                }
                wrong(2, less + "@push;");
                wrong(2, less + "@{");
            }
            wrong(2, TABLE[op] + " @5;");
            wrong(2, TABLE[op] + " @L;");
            wrong(2, TABLE[op] + "@,;");
            wrong(2, TABLE[op] + "@:");
            boolean wants = words.length > 1;
            if (wants) {
                wrong(2, words[0] + " @:");
            }
        }
        // all of them behind a return: what is never come to has no height, but its number
        ThreadJudge x = Judged.of(Judged.main("class A { field int f; static field int s; method void m(int, A[]) { return; } static method void c() { return; } } interface I { abstract method void i(); } ",
            "return; L: " + all + " return;").replace("special void A . m ( int , A [ ] )", "special void A.<init>()").replace("class A {", "class A { method void <init>() { return; }"));
        Judged.due("all load", x.load(), 0);
        int first = x.count(6) - 59;
        for (int op = 0; op < 58; op++) {
            Judged.due("number of " + TABLE[op], x.instruction(first + op, 0), op);
        }
        // numbers, strings, types and names are not alike
        wrong(2, "push @L;");
        wrong(2, "push @\"5\";");
        wrong(2, "string @5;");
        wrong(2, "string @L;");
        wrong(2, "load @L;");
        wrong(2, "inc @L 1;");
        wrong(2, "inc 1 @L;");
        wrong(2, "inc 1@, 2;");
        wrong(2, "goto @5;");
        wrong(2, "goto @\"L\";");
        wrong(2, "new @int;");
        wrong(2, "new A@[];");
        wrong(2, "new @\"A\";");
        wrong(2, "get @int.f;");
        wrong(2, "get A[@].f;".replace("[@]", "@[]"));
        wrong(2, "get A @f;");
        wrong(2, "get A.@int;");
        wrong(2, "virtual A@.m();");
        wrong(2, "virtual void @int.m();");
        wrong(2, "virtual void A@[].m();");
        wrong(2, "virtual void A.@new();");
        wrong(2, "lambda @int void A.c();");
        wrong(2, "lambda I[@] void A.c();".replace("[@]", "@[]"));
        wrong(2, "lambda I @. A.c();");
        wrong(2, "lambda void A.c();".replace("void", "@void"));
        wrong(12, "null; @cast void; pop;");
        wrong(12, "push 1; @array int[]; pop;");
        wrong(2, "array @5;");
        wrong(2, "is @\"A\";");
    }

    /** "FAULT 2: the first token that can't come, as no text of the grammar begins with all before it and it; where it begins" */
    private static void firstThatCantCome() {
        Judged.fault(2, "class A { field @push a; method @push b; }".replaceFirst("method @push", "method push"));
        wrong(2, "} } @}");
        wrong(2, "pop @pop pop;");
        Judged.fault(2, "class A {\n\n  # remark\n  @5 }");
        // grammar ahead of all that is linked, checked, too much behind it
        Judged.fault(2, "class A extends Q { field void a; } class A @A { }");
        Judged.fault(2, "class A { method void m(int, int, int, int, int, int @int, int); }");
    }

    /** "or how many bytes the text has, if it ends too early" */
    private static void endsTooEarly() {
        String text = "abstract class A extends B implements I, J { static field int[] a; method A[] m(int, A[]) { L: push 5; string \"a\"; virtual void A.m(int, A[]); catch T L L L; } }";
        for (int k = 1; k < text.length(); k++) {
            boolean between = text.charAt(k - 1) == ' ' || text.charAt(k) == ' ';
            if (between) {
                Judged.fault(2, text.substring(0, k));
                Judged.fault(2, text.substring(0, k) + " # }\n \t");
            }
        }
        Judged.fault(10, text.replace("extends B", "extends @B"));
    }

    /** "(FAULT 1 counts for the token that is wrong, if all before it can come.)" */
    private static void faultOneCountsIfAllBeforeCanCome() {
        Judged.fault(1, "class A { @?");
        Judged.fault(1, "class @A2345678901234567890123456 { } }");
        Judged.fault(2, "class @{ ?");
        Judged.fault(2, "class A { @? }".replace("@?", "@} ?").replace("{ @}", "@}"));
        Judged.fault(2, "class A { } @} ?");
        // a token that is wrong could not come either way: it is fault 1 all the same
        wrong(1, "load @a2345678901234567890123456;");
        wrong(1, "goto @99999999999;");
        wrong(1, "pop @\"a;");
        wrong(2, "pop @pop ?;");
        // ahead of what is too much behind it
        Judged.fault(1, "class @? { }" + times("class A# { }", 25));
        Judged.fault(3, times("class A# { }", 24) + "class @A { } ?");
        Judged.fault(1, times("class A# { }", 24) + "class @? { }");
        Judged.fault(2, times("class A# { }", 24) + "class @class { }");
        Judged.fault(2, times("class A# { }", 24) + "class@");
    }

    /** "FAULT 3, at the token by which it would be too much: more than 24 classes in the text .. (each at its name)" */
    private static void manyClasses() {
        Judged.fine(times("class A# { } ", 23) + MAIN);
        ThreadJudge x = Judged.loaded(times("interface A# { } ", 23) + MAIN);
        Judged.due("classes", x.count(3), 43);
        Judged.due("the last one", x.classOf(42, 6), 4);
        Judged.due("no more", x.classOf(43, 6), -1);
        Judged.fault(3, times("class A# { } ", 24) + "class @Main { static method void main() { return; } }");
        Judged.fault(3, times("class A# { } ", 24) + "abstract excluded interface @I { }");
        Judged.fault(3, times("class A { } ", 24) + "class @A { }");
    }

    /** "and in it 39 fields" */
    private static void manyFields() {
        String many = "class A { " + times("field int a#; ", 20) + "} class B { " + times("static field B a#; ", 19) + "} ";
        ThreadJudge x = Judged.loaded(many + MAIN);
        Judged.due("fields", x.count(4), 40);
        Judged.fault(3, many + "class C { field C[] @c; } " + MAIN);
        Judged.fault(3, many.replace("} class B", "field int b; } class B").replace("B a18;", "B @a18;") + MAIN);
        Judged.fault(3, many + "class C { field void @c } " + MAIN);
        Judged.fault(2, many + "class C { field void @5; } " + MAIN);
    }

    /** "100 methods (each at its name)" */
    private static void manyMethods() {
        String many = "class A { " + times("method void a#() { return; } ", 60) + "} interface I { " + times("abstract method int a#(); ", 39) + "} ";
        ThreadJudge x = Judged.loaded(many + MAIN);
        Judged.due("methods", x.count(5), 117);
        Judged.due("the last one", x.method(116, 0), 21);
        Judged.due("no more", x.method(117, 0), -1);
        Judged.fault(3, many + "class M { method void m() { return; } static method void @main() { return; } }");
        Judged.fault(3, many + "class M { method void m() { return; } method int[] @m }");
        Judged.fault(2, many + "class M { method void m() { return; } method int[] @5 }");
    }

    /** "1,000 instructions" */
    private static void manyInstructions() {
        String many = "class A { " + times("static method void m#() { " + times("push 1; pop; ", 49) + "push 1; return; } ", 9) + times("static method void n#() { " + times("return; ", 49) + "return; } ", 1) + "} ";
        ThreadJudge x = Judged.loaded(many + Judged.main("", times("return; ", 50)));
        Judged.due("instructions", x.count(6), 1014);
        Judged.due("the last one", x.instruction(1013, 0), 56);
        Judged.due("no more", x.instruction(1014, 0), -1);
        Judged.fault(3, many + Judged.main("", times("return; ", 50) + "@push 1; return;"));
        Judged.fault(3, many + Judged.main("", times("return; ", 50) + "@push a; return;"));
        Judged.fault(2, many + Judged.main("", times("return; ", 50) + "@class; return;"));
        Judged.fine(many + Judged.main("", times("return; ", 50) + "a: b: ").replace("a: b: ", ""));
        Judged.fault(20, many + "class Main { static method void @main() { push 1; ifeq a; " + times("return; ", 48) + "a: b: } }");
    }

    /** "120 of one method" */
    private static void manyOfOneMethod() {
        Judged.fine(Judged.main("class A { method void m() { " + times("return; ", 120) + "} method void n() { " + times("return; ", 120) + "} }", "return;"));
        Judged.fault(3, Judged.main("class A { method void m() { return; } method void n() { " + times("return; ", 120) + "a: @return; } }", "return;"));
        ThreadJudge x = Judged.loaded(Judged.main("", times("push 1; pop; ", 59) + "push 1; return;"));
        Judged.due("of main", x.method(17, 4), 120);
    }

    /** "120 instructions 42, 43, 52 (at its first word)" */
    private static void manyMakers() {
        String news = "static method void m#() { " + times("new A; pop; ", 20) + times("push 1; array A; pop; ", 10) + "return; } ";
        String many = "class A { " + times(news, 3) + "static method void l() { " + times("lambda Runnable void A.l(); pop; ", 30) + "return; } } ";
        Judged.fine(Judged.main(many, "return;"));
        for (String maker : new String[] {"new A", "array int", "lambda Runnable void A.l()", "new", "array", "lambda 5"}) {
            Judged.fault(3, Judged.main(many, "push 1; @" + maker + "; pop; return;"));
        }
        Judged.fine(Judged.main(many, "null; cast A; is A; pop; null; length; pop; return;"));
    }

    /** "8 'catch' of one method (at that word)" */
    private static void manyCatches() {
        String caught = "A: push 1; pop; B: return; H: pop; return; ";
        String eight = times("catch Throwable A B H; ", 8);
        ThreadJudge x = Judged.loaded(Judged.main("class C { method void m() { " + caught + eight + " } }", caught + eight));
        Judged.due("catches of m", x.method(17, 6), 8);
        Judged.due("catches of main", x.method(18, 6), 8);
        Judged.fault(3, Judged.main("", caught + eight + "@catch Throwable A B H; "));
        Judged.fault(3, Judged.main("", caught + eight + "@catch; "));
        Judged.fault(3, Judged.main("", eight + "@catch"));
    }

    /** "6 names behind one 'implements' (at the name)" */
    private static void manyNamesBehindImplements() {
        Judged.fine(times("interface I# { } ", 6) + "class B implements I0, I1, I2, I3, I4, I5 { } class C implements I5, I4, I3, I2, I1, I0 { } " + MAIN);
        Judged.fine("class B implements Runnable, Runnable, Runnable, Runnable, Runnable, Runnable { } " + MAIN);
        Judged.fault(3, "class B implements Runnable, Runnable, Runnable, Runnable, Runnable, Runnable, @Runnable { } " + MAIN);
        Judged.fault(3, "class B implements A, A, A, A, A, A, @A");
        Judged.fault(2, "class B implements A, A, A, A, A, A, @{ } ");
        Judged.fault(2, "class B implements A, A, A, A, A, A, @int { } ");
    }

    /** "6 types in round brackets (also of an instruction; at the type's first token)" */
    private static void manyTypes() {
        String six = "int, int[], A, A[], int, A";
        String text = "class A { method void m(" + six + ") { return; } static method void s(" + six + ") { return; } } interface I { abstract method void i(); } ";
        String values = "push 1; null; null; null; push 1; null; ";
        Judged.fine(Judged.main(text, "null; " + values + "virtual void A.m(" + six + "); " + values + "call void A.s(" + six + "); " + values + "lambda I void A.s(" + six + "); pop; return;"));
        for (String type : new String[] {"@int", "@int[]", "@A", "@A[]", "@void", "@void[]", "@Q"}) {
            Judged.fault(3, "class A { method void m(" + six + ", " + type + ") { return; } } " + MAIN);
            Judged.fault(3, "class A { abstract method void m(" + six + ", " + type + " }");
            for (String op : new String[] {"virtual", "special", "call", "lambda I"}) {
                Judged.fault(3, Judged.main(text, op + " void A.m(" + six + ", " + type + "); return;"));
            }
        }
        Judged.fault(2, Judged.main(text, "call void A.m(" + six + ", @5); return;"));
        Judged.fault(2, Judged.main(text, "call void A.m(" + six + ", @); return;"));
        Judged.fault(2, Judged.main(text, "call void A.m(" + six + "@; return;"));
    }

    /** "32 different strings (at the STRING)" */
    private static void manyStrings() {
        String all = times("string \"#\"; pop; ", 32);
        ThreadJudge x = Judged.loaded(Judged.main("class A { method void m() { " + all + " return; } }", "string \"31\"; pop; string \"0\"; pop; return;"));
        Judged.due("strings", x.count(7), 32);
        Judged.fault(3, Judged.main("class A { method void m() { " + all + " return; } }", "string \"31\"; pop; string @\"32\"; pop; return;"));
        Judged.fault(3, Judged.main("class A { method void m() { " + all + " return; } }", "string @\"\"; pop; return;"));
        Judged.fault(3, Judged.main("class A { method void m() { " + all + " return; } }", "string @\"a\" pop; return;"));
        Judged.fault(2, Judged.main("class A { method void m() { " + all + " return; } }", "string @5; pop; return;"));
    }
}
