/** LINKS: what is above what, selecting and finding, and each of the faults 10 to 13, sentence by sentence. */
public final class LinksTest {
    private static final String MAIN = " class Main { static method void main() { return; } }";

    public static void main(String[] args) {
        eachExtendsObject();
        classesOfTheLibrary();
        below();
        arraysBelow();
        selectTheFirst();
        selectOfInterfaces();
        selectSkipsStatic();
        findTheFirst();
        findAField();
        lowestNumberFirst();
        firstPlace();
        nameOfAClassBefore();
        noSuchClass();
        extendsOfAnInterface();
        rowOfNames();
        abstractInterface();
        typesOfMembers();
        namesOfMembers();
        initAndClinit();
        angledNames();
        flagsOfFields();
        flagsOfMethods();
        abstractMethods();
        givesAnotherType();
        giveUnlikeTypes();
        namesThatAreNoClass();
        labels();
        catches();
        namesInLines();
        fields();
        finalFields();
        methodsFound();
        virtualCalls();
        specialCalls();
        staticCalls();
        typesOfEach();
        lambdas();
        lambdaIsMadeFor();
        locals();
        theMain();
        Judged.end();
    }

    private static void ten(String marked) {
        Judged.fault(10, marked + MAIN);
    }

    private static void eleven(String marked) {
        Judged.fault(11, marked + MAIN);
    }

    private static void fine(String text) {
        Judged.fine(text + MAIN);
    }

    private static String numbered(String what, int n) {
        StringBuilder all = new StringBuilder();
        for (int k = 0; k < n; k++) {
            all.append(what.replace("#", "" + k));
        }
        return all.toString();
    }

    private static final String MORE = "abstract class Abs { abstract method void a(); } interface I { abstract method void i(); static method void si() { return; } static field int z; } "
        + "class A implements I { field int f; static field int s; field A[] arr; method void m() { return; } static method void t() { return; } method void a() { return; } method int g(int) { push 1; give; } method void i() { return; } } "
        + "class B extends A { static field int f2; } ";

    private static void line(String lines) {
        Judged.fault(12, Judged.main(MORE, lines + " return;"));
    }

    private static void fineLine(String lines) {
        Judged.fine(Judged.main(MORE, lines + " return;"));
    }

    /** "Each class but Object without 'extends' EXTENDS Object (an interface always; what is above it stands behind its 'implements')." */
    private static void eachExtendsObject() {
        ThreadJudge x = Judged.loaded("class A { } interface I { } interface J implements I, Runnable { } class B extends A implements J { } class C extends Thread { }" + MAIN);
        int[] due = {0, 0, 0, 19, 16, 0};
        for (int k = 0; k < due.length; k++) {
            Judged.due("class " + k + " extends", x.classOf(19 + k, 0), due[k]);
            Judged.due("is below Object", x.below(19 + k, 0), 1);
        }
        Judged.due("Object extends nothing", x.classOf(0, 0), -1);
    }

    /** Classes of the library are told by their names as those of the text are, the first and the last of them too. */
    private static void classesOfTheLibrary() {
        String[] names = ("Object Runnable String Class Method Throwable NullPointer Arithmetic Index Cast Store Size Monitor State NoClass NoMethod "
            + "Thread Out Runtime").split(" ");
        for (int c = 0; c < names.length; c++) {
            String name = names[c];
            boolean isInterface = c == 1;
            boolean isThrown = c >= 5 && c <= 15;
            if (isInterface) {
                ten("class A extends @" + name + " { }");
                ThreadJudge x = Judged.loaded("class A implements " + name + " { method void run() { return; } }" + MAIN);
                Judged.due("implements " + name, x.below(19, c), 1);
                line("@new " + name + "; pop;");
            } else {
                ten("class A implements @" + name + " { }");
                ten("interface I implements @" + name + " { }");
                ten("interface I extends @" + name + " { }");
                ThreadJudge x = Judged.loaded("class A extends " + name + " { }" + MAIN);
                Judged.due("extends " + name, x.classOf(19, 0), c);
                Judged.due("is below " + name, x.below(19, c), 1);
                fineLine("new " + name + "; pop;");
            }
            ten("class @" + name + " { }");
            fineLine("null; cast " + name + "; pop; null; is " + name + "; pop; null; cast " + name + "[]; pop; push 1; array " + name + "; pop;");
            String caught = "S: push 1; pop; E: return; H: pop; ";
            if (isThrown) {
                fineLine(caught + "return; catch " + name + " S E H;");
            } else {
                line(caught + "return; @catch " + name + " S E H;");
            }
            fine("class A { field " + name + " f; static field " + name + "[] g; static method " + name + " m(" + name + ", " + name + "[]) { load 0; give; } }");
        }
    }

    /** "A class is BELOW itself, what it extends, what it implements, and what these are below." */
    private static void below() {
        ThreadJudge x = Judged.loaded("interface I { } interface J implements I { } class A implements J { } class B extends A { } class C extends B implements K { } interface K implements L { } interface L { }" + MAIN);
        // I 19, J 20, A 21, B 22, C 23, K 24, L 25, Main 26
        String[] above = {"I", "IJ", "IJA", "IJAB", "IJABCKL", "KL", "L", "M"};
        for (int c = 0; c < 8; c++) {
            for (int d = 0; d < 8; d++) {
                Judged.due("below " + c + " " + d, x.below(19 + c, 19 + d), above[c].indexOf("IJABCKLM".charAt(d)) >= 0 ? 1 : 0);
            }
        }
    }

    /** "int[] is below itself and Object; an array of c is below itself, Object, and an array of d if c is below d." */
    private static void arraysBelow() {
        String[] types = {"int[]", "Object", "Object[]", "A[]", "B[]", "I[]", "A", "I", "Runnable"};
        String[] above = {"int[] Object", "Object", "Object[] Object", "A[] I[] Object[] Object", "B[] A[] I[] Object[] Object", "I[] Object[] Object", "A I Object", "I Object", "Runnable Object"};
        String[] makes = {"push 1; array int;", "new Object;", "push 1; array Object;", "push 1; array A;", "push 1; array B;", "push 1; array I;", "new A;", "lambda I void A.t();", "lambda Runnable void A.t();"};
        for (int k = 0; k < types.length; k++) {
            for (int j = 0; j < types.length; j++) {
                boolean is = (" " + above[k] + " ").contains(" " + types[j] + " ");
                String text = Judged.main(MORE + "class C { static method " + types[j] + " m(" + types[k] + ") { load 0; @give; } }", makes[k] + " is " + types[j] + "; call void Out.print(int); return;");
                if (is) {
                    ThreadJudge x = Judged.loaded(text.replace("@", ""));
                    x.begin();
                    x.run(20, 1);
                    Judged.due(types[k] + " is " + types[j], x.said(0), 1);
                } else {
                    Judged.fault(23, text);
                    ThreadJudge x = Judged.loaded(Judged.main(MORE, makes[k] + " is " + types[j] + "; call void Out.print(int); return;"));
                    x.begin();
                    x.run(20, 1);
                    Judged.due(types[k] + " is no " + types[j], x.said(0), 0);
                }
            }
        }
    }

    /** "TO SELECT ..: the first of c, what that extends, .. that has one which is not static: that one (none, if it is abstract)" */
    private static void selectTheFirst() {
        ThreadJudge x = Judged.loaded("interface D { method void m() { return; } } class A implements D { method void m() { return; } method void m(int) { return; } } class B extends A { } abstract class C extends B { abstract method void m(); } class E extends C { } class F extends E { method void m() { return; } }" + MAIN);
        // D.m 17, A.m 18, A.m(int) 19, C.m 20, F.m 21
        int[] due = {17, 18, 18, -1, -1, 21};
        for (int c = 0; c < due.length; c++) {
            Judged.due("m of class " + (19 + c), x.selected(19 + c, 17), due[c]);
            Judged.due("by any method of the name and parameters", x.selected(19 + c, 20), due[c]);
        }
        Judged.due("m(int) of D", x.selected(19, 19), -1);
        Judged.due("m(int) of F", x.selected(24, 19), 19);
        Judged.due("wait of an interface", x.selected(19, 1), 1);
        Judged.due("wait of F", x.selected(24, 1), 1);
        Judged.due("<init> of F", x.selected(24, 0), 0);
        Judged.due("run of Runnable: abstract", x.selected(1, 4), -1);
        Judged.due("start of Object", x.selected(0, 13), -1);
        // a class ahead of an interface that is nearer
        x = Judged.loaded("class A { method void m() { return; } } interface I { method void m() { return; } } class B extends A implements I { }" + MAIN);
        Judged.due("the class's own way first", x.selected(21, 18), 17);
        // Object ahead of interfaces
        x = Judged.loaded("interface I { method void notify() { return; } } class A implements I { }" + MAIN);
        Judged.due("I's own", x.selected(19, 2), 17);
        Judged.due("of A Object's", x.selected(20, 2), 2);
    }

    /** "else of all interfaces that c is below those that have one which is not static, not abstract, and that no other one of these is below: that, if it is just one; otherwise none" */
    private static void selectOfInterfaces() {
        String i = "interface I { method void m() { return; } } interface J implements I { method void m() { return; } } interface K { method void m() { return; } } "
            + "interface L implements I { } interface S { static method void m() { return; } } interface N implements I { abstract method void m(); } interface O implements J, K { method void m() { return; } } ";
        // I.m 17, J.m 18, K.m 19, S.m 20, N.m 21, O.m 22; classes from 26 on
        ThreadJudge x = Judged.loaded(i + "class A implements I { } class B implements I, J { } class C implements I, K { } class D implements J, K, O { } class E implements L, J { } "
            + "class F implements S { } class G implements S, I { } class H implements N { } class P extends C { } class Q extends A implements J { } class R extends B implements K { } class T { }" + MAIN);
        int[] due = {17, 18, -1, 22, 18, -1, 17, 17, -1, 18, -1, -1};
        for (int c = 0; c < due.length; c++) {
            Judged.due("m of class " + (26 + c), x.selected(26 + c, 17), due[c]);
        }
        Judged.due("of L: above it", x.selected(22, 17), 17);
        Judged.due("of N: its own is abstract", x.selected(24, 17), -1);
        Judged.due("of S: static", x.selected(23, 17), -1);
        Judged.due("of O: its own", x.selected(25, 17), 22);
    }

    /** "that has one which is not static" */
    private static void selectSkipsStatic() {
        ThreadJudge x = Judged.loaded("class A { method void m() { return; } } class B extends A { static method void m() { return; } } interface I { method void n() { return; } } class C implements I { static method void n() { return; } }" + MAIN);
        Judged.due("m of B is A's", x.selected(20, 18), 17);
        Judged.due("n of C is I's", x.selected(22, 19), 19);
        Judged.due("print of Out", x.selected(17, 15), -1);
    }

    /** "TO FIND one from c: the first of c, what that extends, .., then of the interfaces that c is below, by number, that has it." */
    private static void findTheFirst() {
        ThreadJudge x = Judged.loaded(Judged.main("interface J { abstract method void m(); abstract method void n(); } interface I { method void m() { return; } abstract method void o(); } class A implements I, J { method void o() { return; } } class B extends A { static method void s() { return; } } abstract class C extends B { abstract method void m(); } ",
            "null; virtual void A.m(); null; virtual void B.n(); null; virtual void B.o(); null; virtual void C.m(); null; virtual void I.wait(); null; virtual void I.m(); call void B.s(); call void C.s(); new B; special void B.<init>(); return;"));
        // J.m 17, n 18, I.m 19, o 20, A.o 21, B.s 22, C.m 23
        int m = x.method(24, 3);
        int[][] due = {{1, 17}, {3, 18}, {5, 21}, {7, 23}, {9, 1}, {11, 19}, {12, 22}, {13, 22}, {15, 0}};
        for (int[] one : due) {
            Judged.due("found at " + one[0], x.instruction(m + one[0], 2), one[1]);
        }
        // a static one is found, and is not passed by
        Judged.fault(12, Judged.main("class A { method void m() { return; } } class B extends A { static method void m() { return; } }", "null; @virtual void B.m(); return;"));
        Judged.fault(12, Judged.main("class A { static method void m() { return; } } class B extends A { method void m() { return; } }", "@call void B.m(); return;"));
    }

    /** "TO FIND a field: the first of c, what that extends, .. that has one of the name." */
    private static void findAField() {
        ThreadJudge x = Judged.loaded(Judged.main("class A { field int f; static field int s; } class B extends A { } class C extends B { field int f; static field int s; } class D extends C { } ",
            "null; get A.f; null; get B.f; null; get C.f; null; get D.f; getstatic A.s; getstatic B.s; getstatic C.s; pop; pop; pop; getstatic D.s; return;"));
        int m = x.method(17, 3);
        int[][] due = {{1, 1}, {3, 1}, {5, 3}, {7, 3}, {8, 2}, {9, 2}, {10, 4}, {14, 4}};
        for (int[] one : due) {
            Judged.due("found at " + one[0], x.instruction(m + one[0], 2), one[1]);
        }
        line("@getstatic A.z; pop;");
        fineLine("getstatic I.z; pop;");
        Judged.fault(12, Judged.main("class A { field int f; } class B extends A { static field int f; }", "null; @get B.f; pop; return;"));
        Judged.fault(12, Judged.main("class A { static field int f; } class B extends A { field int f; }", "@getstatic B.f; pop; return;"));
        Judged.fault(12, Judged.main("class A { } class B extends A { field int f; }", "null; @get A.f; pop; return;"));
    }

    /** "those of the lowest number are looked for first in the whole text" */
    private static void lowestNumberFirst() {
        Judged.fault(10, "class A { field void a; method void m() { goto Q; } } class B extends @Q { }");
        Judged.fault(11, "class A { static method void m() { goto Q; } } class B { field void @a; }");
        Judged.fault(12, "class A { static method void m() { @goto Q; } }");
        Judged.fault(12, "class A { static method void main() { pop; } static method void m() { @goto Q; } }");
        Judged.fault(13, "class A { static method void main(int) { pop; } }");
        Judged.fault(10, "abstract interface @I { field Q a; }");
    }

    /** "of one number the first place counts" */
    private static void firstPlace() {
        ten("class A extends @Q { } class A { }");
        ten("class @A extends A { } class B extends Q { }");
        ten("class A implements @Q, P { }");
        ten("class A extends @P implements Q { }");
        ten("abstract interface @A implements Q { }");
        eleven("class A { field void @a; field void b; }");
        eleven("class A { method void m(); field void b; }".replace("void m", "void @m"));
        eleven("class @C implements I, J { method Q q() { return; } } interface I { abstract method void m(); } interface J { abstract method int m(); }");
        eleven("interface I { abstract method void m(); } interface J { abstract method int m(); } class A { field void @a; } class C implements I, J { }");
        line("@goto Q; new Q; pop; A: A:");
        line("A: @A: goto Q;");
        line("@new Q; pop; A: A:");
        line("A: H: @catch Q A A A; goto Q;");
        Judged.fault(12, "class A { static method void m() { @goto Q; } static method void n() { A: A: return; } }" + MAIN);
    }

    /** "10, at a class's name: it is that of a class before." */
    private static void nameOfAClassBefore() {
        ten("class A { } class @A { }");
        ten("class A { } interface @A { }");
        ten("interface A { } class B { } class @A { } class A { }");
        ten("class @Runtime { }");
        ten("interface @Runnable { }");
        Judged.fault(10, "class Main { static method void main() { return; } } class @Main { }");
        fine("class a { } class A { } class runnable { }");
    }

    /** "At a name behind 'extends' or 'implements': there is no such class; it is an interface, or no interface" */
    private static void noSuchClass() {
        ten("class A extends @Q { }");
        ten("class A implements @Q { }");
        ten("class A implements Runnable, @Q, Runnable { }");
        ten("class A extends @I { } interface I { }");
        ten("class A extends @Runnable { }");
        ten("class A implements @B { } class B { }");
        ten("class A implements Runnable, @Object { }");
        ten("interface I implements @A { } class A { }");
        ten("interface I implements @Thread { }");
        fine("class A extends B implements I { } abstract class B { } interface I { } excluded class C extends D { } excluded abstract class D { }");
    }

    /** "'extends' of an interface" */
    private static void extendsOfAnInterface() {
        ten("interface I extends @J { } interface J { }");
        ten("interface I extends @A { } class A { }");
        ten("interface I extends @Object { }");
        ten("interface I extends @Q { }");
        ten("interface I extends @J implements Q { } class J { }");
    }

    /** "a row of such names (of classes that there are, whatever else is wrong with them; of several of one name the first one is meant) leads from it to itself" */
    private static void rowOfNames() {
        ten("class @A extends A { }");
        ten("interface @I implements I { }");
        ten("class @A implements A { }");
        ten("class A { } class @B extends C { } class C extends D { } class D extends B { }");
        ten("interface @I implements J { } interface J implements K { } interface K implements Runnable, I { }");
        ten("class C extends A { } class @A extends B { } class B extends A { }");
        ten("class @A extends I { } interface I implements A { }");
        ten("interface @I extends A { } class A implements I { }");
        ten("class A extends B { } class B { } class @B extends A { }");
        ten("class @A extends B { } class B extends A { } class B { }");
        ten("class A extends @Q { } class B extends Q { }");
        fine("class C extends B implements I { } class B extends A implements I { } class A implements I { } interface I { }");
    }

    /** "an interface is 'abstract'" */
    private static void abstractInterface() {
        ten("abstract interface @I { }");
        ten("excluded abstract interface @I { }");
        fine("excluded interface I { } abstract class A { }");
    }

    private static void member(String member) {
        eleven("class A { " + member + " }");
    }

    /** "11, at a member's name: a field's or a method's type, or one of its parameters', that is no class, is void (of a field, a parameter), an array of void" */
    private static void typesOfMembers() {
        for (String type : new String[] {"Q", "Q[]", "void[]"}) {
            member("field " + type + " @a;");
            member("static field " + type + " @a;");
            member("method " + type + " @m() { null; give; }");
            member("static method void @m(" + type + ") { return; }");
            member("method void @m(int, A, " + type + ", int) { return; }");
            eleven("interface I { abstract method " + type + " @m(); }");
        }
        member("field void @a;");
        member("method void @m(void) { return; }");
        member("method void @m(int, int, int, int, int, void) { return; }");
        fine("class A { field int a; field int[] b; field A c; field A[] d; field B e; method B m(B, B[], int, int[], A, A[]) { null; give; } method void n() { return; } method int o() { push 1; give; } method int[] p() { null; give; } } class B { }");
    }

    /** "the name is that of a field before in the class, or of a method with the same parameters" */
    private static void namesOfMembers() {
        member("field int a; field A @a;");
        member("static field int a; field int b; field int[] @a;");
        member("method void m() { return; } method int @m() { push 1; give; }");
        member("method void m(int, A) { return; } static method void @m(int, A) { return; }");
        member("method void <init>() { return; } method void @<init>() { return; }");
        member("static method void <clinit>() { return; } static method void @<clinit>() { return; }");
        fine("class A { field int m; method void m() { return; } method void m(int) { return; } method void m(int[]) { return; } method void m(A) { return; } method void m(A[]) { return; } method void m(int, int) { return; } field int n; method void n() { return; } } class B { field int m; method void m() { return; } } class C extends A { field int m; method void m() { return; } }");
    }

    /** "<init> is static, 'abstract', or gives something; <clinit> is not static, gives something or has parameters" .. "<init> in an interface; <init>, <clinit> 'synchronized'" */
    private static void initAndClinit() {
        member("static method void @<init>() { return; }");
        eleven("abstract class A { abstract method void @<init>(); }");
        member("method int @<init>() { push 1; give; }");
        member("method A @<init>(int) { null; give; }");
        member("method void @<clinit>() { return; }");
        member("static method int @<clinit>() { push 1; give; }");
        member("static method void @<clinit>(int) { return; }");
        eleven("interface I { method void @<init>() { return; } }");
        member("synchronized method void @<init>() { return; }");
        member("static synchronized method void @<clinit>() { return; }");
        member("method void @<init>();");
        member("static method void @<clinit>();");
        fine("class A { method void <init>() { return; } method void <init>(int, A) { return; } static method void <clinit>() { return; } } interface I { static method void <clinit>() { return; } }");
    }

    /** "a name with < otherwise" */
    private static void angledNames() {
        for (String name : new String[] {"<", "<a", "<init", "<clinit", "<init>>", "<Init>", "<cinit>", "<>"}) {
            member("method void @" + name + "() { return; }");
            member("static method void @" + name + "() { return; }");
            member("field int @" + name + ";");
        }
        member("static field int @<clinit>;");
        fine("class <A> { field int init>; method void clinit>() { <a>: goto <a>; } }");
    }

    /** "a field is 'abstract', 'synchronized', or final and volatile, or not static in an interface" */
    private static void flagsOfFields() {
        member("abstract field int @a;");
        member("synchronized field int @a;");
        member("static abstract field int @a;");
        member("final volatile field int @a;");
        member("volatile static final field int @a;");
        eleven("interface I { field int @a; }");
        eleven("interface I { final field int @a; }");
        fine("class A { final field int a; volatile field int b; static final field int c; static volatile field int d; } interface I { static field int a; static final field int b; static volatile field int c; }");
    }

    /** "a method is 'volatile', 'final'; one without lines is not 'abstract', or one that is abstract has lines, or is static or 'synchronized'" */
    private static void flagsOfMethods() {
        member("volatile method void @m() { return; }");
        member("final method void @m() { return; }");
        member("static final method void @m() { return; }");
        member("method void @m();");
        member("static method void @m();");
        member("synchronized method void @m();");
        eleven("interface I { method void @m(); }");
        eleven("abstract class A { abstract method void @m() { return; } }");
        eleven("abstract class A { abstract method void @m() { L: } }");
        eleven("abstract class A { abstract static method void @m(); }");
        eleven("abstract class A { abstract synchronized method void @m(); }");
        eleven("interface I { static abstract method void @m(); }");
        fine("abstract class A { abstract method void m(); static synchronized method void n() { return; } synchronized method void o() { return; } } interface I { abstract method void m(); synchronized method void n() { return; } static method void o() { return; } }");
    }

    /** "an abstract one in a class that is not abstract and no interface" */
    private static void abstractMethods() {
        member("abstract method void @m();");
        eleven("excluded class A { abstract method void @m(); }");
        fine("abstract class A { abstract method void m(); } interface I { abstract method void m(); } class B extends A implements I { }");
    }

    /** "it is not static, its name has no <, and a class or interface other than its own that its class is below has a method, not static, of this name and these parameters that gives another type" */
    private static void givesAnotherType() {
        eleven("class A { method void m() { return; } } class B extends A { method int @m() { push 1; give; } }");
        eleven("class A { method A m() { null; give; } } class C extends A { } class B extends C { method B @m() { null; give; } }");
        eleven("class B extends A { method int @m() { push 1; give; } } class A { method void m() { return; } }");
        eleven("interface I { abstract method void m(); } class B implements I { method int @m() { push 1; give; } }");
        eleven("interface I { abstract method void m(int); } interface J implements I { abstract method int @m(int); }");
        eleven("class A { method int @notify() { push 1; give; } }");
        eleven("interface I { abstract method int @wait(); }");
        eleven("class A extends Thread { method int @run() { push 1; give; } }");
        eleven("class A implements Runnable { method int @run() { push 1; give; } }");
        eleven("class A extends Thread { method A @uncaught(Throwable) { null; give; } }");
        eleven("class A { method int[] m() { null; give; } } class B extends A { method A[] @m() { null; give; } }");
        // of names with < no type is asked but by what is said of <init>, <clinit>
        eleven("class B extends A { method void <init>() { return; } } class A { method int @<init>() { push 1; give; } }");
        eleven("class B extends A { method void <init>(A) { return; } } class A { method A @<init>(A) { load 0; give; } }");
        fine("class A { method void m() { return; } } class B extends A { static method int m() { push 1; give; } }");
        fine("class A { static method void m() { return; } } class B extends A { method int m() { push 1; give; } }");
        fine("class A { method void m() { return; } } class B extends A { method int m(int) { push 1; give; } method void m() { return; } }");
        fine("class A { method void m() { return; } } class B { method int m() { push 1; give; } } class C { method int run() { push 1; give; } }");
        fine("class A extends B { method void m() { return; } } class B { } class C extends B { method int m() { push 1; give; } }");
    }

    /** "At a class's name: two classes or interfaces other than it that it is below have methods, not static, of one name without < and the same parameters, that give unlike types." */
    private static void giveUnlikeTypes() {
        String i = "interface I { abstract method void m(int); } ";
        eleven(i + "interface J { method int m(int) { push 1; give; } } class @C implements I, J { }");
        eleven(i + "interface J { abstract method int m(int); } interface @K implements J, I { }");
        eleven(i + "class A { method int m(int) { push 1; give; } } class @C extends A implements I { }");
        eleven(i + "class A { method int m(int) { push 1; give; } } class B extends A { } interface K implements I { } class @C extends B implements K { }");
        eleven("class @C extends A implements I { } " + i + "class A { method int m(int) { push 1; give; } }");
        eleven("class @C extends B { } class B extends A { method int m() { push 1; give; } } class A { method void m() { return; } }");
        eleven("interface I { abstract method int uncaught(Throwable); } class @C extends Thread implements I { }");
        eleven("class @D extends C { } class C implements I, J { } interface J { abstract method int m(int); } " + i);
        fine(i + "interface J { abstract method void m(int); abstract method int m(int[]); } class C implements I, J { }");
        fine(i + "interface J { static method int m(int) { push 1; give; } } class C implements I, J { }");
        fine(i + "interface J { abstract method int m(int); } class C implements I { } class D implements J { }");
        fine("class A { method void <init>(int) { return; } } class B extends A { method void <init>(int) { return; } }");
        eleven("class C extends B { } class B extends A { method void <init>() { return; } } class A { method int @<init>() { push 1; give; } }");
        eleven("class C extends B { } class B extends A { method int @<x>() { push 1; give; } } class A { method void <x>() { return; } }");
        // behind many other methods
        String many = "class Z { " + numbered("method void z#(int) { return; } ", 60) + "} ";
        eleven(many + i + "interface J { abstract method int m(int); } class @C implements I, J { }");
        eleven(many + "class A { method int m() { push 1; give; } } class B { method void y() { return; } } interface I { method void m() { return; } } class @C extends A implements I { }");
        // two of one class are another fault, and stand elsewhere
        eleven("class C extends A { } class A { method int f() { push 1; give; } method void @f() { return; } }");
        eleven("class C extends A { } class A { method void f() { return; } method int @f() { push 1; give; } method void f() { return; } }");
        // static ones do not count, whichever stands ahead of the other
        String a = "class A { static method int m(int) { push 1; give; } } ";
        fine(i + a + "class C extends A implements I { }");
        fine(a + i + "class C extends A implements I { }");
        fine("class C extends A implements I { } " + a + i);
        fine("class C extends B { } class B extends A { method void m(int) { return; } } " + a);
        fine("class C extends B { } " + a + "class B extends A { method void m(int) { return; } } ");
    }

    /** "(Names that are no class are one type by these two.)" */
    private static void namesThatAreNoClass() {
        eleven("class C extends A implements I { } interface I { abstract method P @m(); } class A { method Q m() { return; } }");
        eleven("class C extends A implements I { } interface I { abstract method P[] @m(); } class A { method Q[] m() { return; } }");
        eleven("class @C extends A implements I { } interface I { abstract method P[] m(); } class A { method Q m() { return; } }");
        eleven("class @C extends A implements I { } interface I { abstract method P m(); } class A { method int m() { return; } }");
        eleven("class @C extends A implements I { } interface I { abstract method void m(P); } class A { method int m(Q) { return; } }");
        eleven("class @C extends A implements I { } interface I { abstract method void m(P[]); } class A { method int m(Q[]) { return; } }");
        eleven("class C extends A implements I { } interface I { abstract method void @m(P); } class A { method int m(Q[]) { return; } }");
        eleven("class B extends A { method Q @m() { return; } } class A { method P m() { return; } }");
    }

    /** "12, at a label's .. first token: a label told twice in a method; a label that is not told in it" */
    private static void labels() {
        line("L: push 1; pop; @L:");
        line("L: @L: L:");
        line("@goto L;");
        line("L: @goto l;");
        for (String op : "ifeq ifne iflt ifge ifgt ifle cmpeq cmpne cmplt cmpge cmpgt cmple same other ifnull ifsome".split(" ")) {
            line("@" + op + " L;");
        }
        Judged.fault(12, "class A { static method void m() { L: return; } static method void n() { @goto L; } }" + MAIN);
        fine("class A { static method void m() { L: goto L; } static method void n() { L: goto L; } }");
        // one that the next method tells, as its first or a later one
        Judged.fault(12, "class A { static method void m() { @goto L; } static method void n() { L: goto L; } }" + MAIN);
        Judged.fault(12, "class A { static method void m() { M: @goto L; } static method void n() { L: M: goto L; } }" + MAIN);
        Judged.fault(12, "class A { static method void m() { M: @goto L; } static method void n() { K: L: goto L; } }" + MAIN);
        Judged.fault(12, "class A { static method void m() { A: push 1; pop; B: return; @catch Throwable A B L; } static method void n() { L: goto L; } }" + MAIN);
        fineLine("goto L; A: push 1; ifeq A; return; L: M: goto A;");
        // a label at the end names what is behind the last instruction
        Judged.fault(20, "class Main { static method void @main() { goto L; L: } }");
    }

    /** "(for 'catch': or its first is not before its second)" .. "for 'catch': not below Throwable" */
    private static void catches() {
        String h = "A: push 1; B: pop; goto E; H: pop; E: ";
        for (String wrong : new String[] {"Throwable Q B H", "Throwable A Q H", "Throwable A B Q", "Throwable A A H", "Throwable B A H", "Throwable H A H",
            "Object A B H", "Runnable A B H", "Q A B H", "A A B H", "Thread A B H", "String A B H"}) {
            line(h + "@catch " + wrong + ";");
            line("@catch " + wrong + "; " + h);
        }
        line("A: push 1; pop; goto E; X: Y: H: pop; E: @catch Throwable X Y H;");
        fineLine(h + "catch Throwable A H H; catch State A E H;");
        fineLine("catch NullPointer A B H; " + h);
        fineLine("goto A; H: pop; return; A: push 1; B: pop; catch Throwable A B H;");
        fineLine("goto A; H: pop; A: push 1; pop; B: return; catch Throwable A B H;");
        Judged.fine(Judged.main("class E extends Throwable { } class F extends E { }", h + "catch E A B H; catch F A B H; return;"));
        Judged.fault(12, "class A { static method void m() { " + h + "return; } static method void n() { return; @catch Throwable A B H; } }" + MAIN);
    }

    /** "a name that is no class (or void, an array of void; for 43: void, or with [ ]; for 42: an interface, or an abstract class; for 47, 48: int)" */
    private static void namesInLines() {
        for (String type : new String[] {"Q", "Q[]", "void", "void[]", "int"}) {
            line("null; @cast " + type + "; pop;");
            line("null; @is " + type + "; pop;");
        }
        for (String type : new String[] {"Object", "int[]", "A", "A[]", "I", "I[]", "Abs", "Abs[]", "Runnable"}) {
            fineLine("null; cast " + type + "; is " + type + "; pop;");
        }
        for (String type : new String[] {"Q", "Q[]", "void", "void[]", "int[]", "A[]", "I[]"}) {
            line("push 1; @array " + type + "; pop;");
        }
        for (String type : new String[] {"int", "A", "I", "Abs", "Object"}) {
            fineLine("push 1; array " + type + "; pop;");
        }
        for (String c : new String[] {"Q", "I", "Abs", "Runnable"}) {
            line("@new " + c + "; pop;");
        }
        fineLine("new A; new B; new Object; new Thread; new String; new Class; new Method; pop; pop; pop; pop; pop; pop; pop;");
        Judged.fault(12, Judged.main("abstract excluded class X { } ", "@new X; pop; return;"));
        Judged.fine(Judged.main("excluded class X { } ", "new X; pop; return;"));
        line("null; @get Q.f; pop;");
        line("@getstatic Q.s; pop;");
        line("null; @virtual void Q.m();");
        line("@call void Q.t();");
        line("null; @virtual Q A.m();");
        line("null; @virtual Q[] A.m();");
        line("null; null; @virtual int A.g(Q);");
        line("null; push 1; @virtual int A.g(int, Q);");
        line("null; @virtual void[] A.m();");
        line("null; null; @virtual int A.g(void);");
        line("@lambda Q void A.t(); pop;");
    }

    /** "38 to 41: no field is found, or it is static (38, 39) or not (40, 41)" */
    private static void fields() {
        line("null; @get A.q; pop;");
        line("null; @get A.m; pop;");
        line("null; @get A.s; pop;");
        line("null; push 1; @put A.s;");
        line("null; push 1; @put A.q;");
        line("@getstatic A.f; pop;");
        line("push 1; @putstatic A.f;");
        line("@getstatic A.q; pop;");
        line("push 1; @putstatic A.q;");
        line("null; @get B.f2; pop;");
        line("null; @get Object.target; pop;");
        fineLine("null; get A.f; pop; null; push 1; put B.f; getstatic A.s; putstatic B.s; getstatic B.f2; pop; null; get Thread.target; pop;");
    }

    /** "39, 41 of a final field: not in <init> (39), <clinit> (41) of the class that has it" */
    private static void finalFields() {
        String a = "class A { final field int f; static final field int s; ";
        String put = "null; push 1; @put A.f; return; } }";
        String putstatic = "push 1; @putstatic A.s; return; } }";
        fine(a + "method void <init>() { " + put.replace("@", ""));
        fine(a + "method void <init>(int, A) { " + put.replace("@", ""));
        fine(a + "method void <init>() { " + put.replace("@put A.f", "put B.f") + " class B extends A { }");
        fine(a + "static method void <clinit>() { " + putstatic.replace("@", ""));
        fine(a + "static method void <clinit>() { " + putstatic.replace("@putstatic A.s", "putstatic B.s") + " class B extends A { }");
        Judged.fault(12, a + "method void m() { " + put + MAIN);
        Judged.fault(12, a + "static method void <clinit>() { " + put + MAIN);
        Judged.fault(12, a + "static method void m() { " + putstatic + MAIN);
        Judged.fault(12, a + "method void <init>() { " + putstatic + MAIN);
        Judged.fault(12, a + "} class B extends A { method void <init>() { " + put + MAIN);
        Judged.fault(12, a + "} class B extends A { method void <init>() { " + put.replace("put A.f", "put B.f") + MAIN);
        Judged.fault(12, a + "} class B extends A { static method void <clinit>() { " + putstatic + MAIN);
        Judged.fault(12, a + "} class B { method void <init>() { " + put + MAIN);
        fine(a + "} class B { method void m() { null; get A.f; pop; getstatic A.s; pop; return; } }");
    }

    /** "49 to 52: no method is found from the class, or it gives another type" */
    private static void methodsFound() {
        for (String op : new String[] {"virtual", "special"}) {
            line("null; @" + op + " void A.q();");
            line("null; @" + op + " void A.f();");
            line("null; @" + op + " int A.m();");
            line("null; @" + op + " A A.m();");
            line("null; push 1; @" + op + " void A.m(int);");
            line("null; @" + op + " int A.g();");
            line("null; null; @" + op + " int A.g(int[]);");
        }
        line("@call void A.q();");
        line("@call int A.t();");
        line("push 1; @call void A.t(int);");
        line("@lambda I void A.q(); pop;");
        line("@lambda I int A.t(); pop;");
        fineLine("null; virtual void B.m(); null; push 1; virtual int B.g(int); pop; call void B.t(); null; virtual void I.notify(); null; virtual void Abs.a();");
        // nor what an interface has that the class is not below
        String beside = "interface P { method void p() { return; } static method void s() { return; } } class A implements Q { } interface Q { method void q() { return; } } interface R { method void r() { return; } static method void t() { return; } } ";
        for (String op : new String[] {"null; @virtual void A.p();", "null; @virtual void A.r();", "@call void A.s();", "@call void A.t();", "null; @special void A.r();", "@lambda Runnable void A.s(); pop;", "null; @virtual void Q.r();", "null; @virtual void Q.p();"}) {
            Judged.fault(12, Judged.main(beside, op + " return;"));
        }
        Judged.fine(Judged.main(beside, "null; virtual void A.q(); null; virtual void Q.q(); null; virtual void P.p(); call void R.t(); return;"));
        // of one name and parameters each class may have one that gives something else
        String[] types = {"int", "void", "K0", "K0[]", "int[]"};
        StringBuilder unlike = new StringBuilder();
        for (int k = 0; k < types.length; k++) {
            String gives = k == 0 ? "push 1; give;" : k == 1 ? "return;" : "null; give;";
            unlike.append("class K" + k + " { method " + types[k] + " f(int) { " + gives + " } static method " + types[types.length - 1 - k] + " s() { " + (k == 4 ? "push 1; give;" : k == 3 ? "return;" : "null; give;") + " } } ");
        }
        for (int k = 0; k < types.length; k++) {
            for (int j = 0; j < types.length; j++) {
                String call = "null; push 1; @virtual " + types[j] + " K" + k + ".f(int); return;";
                String fixed = "@call " + types[types.length - 1 - j] + " K" + k + ".s(); return;";
                if (k == j) {
                    Judged.fine(Judged.main(unlike.toString(), call.replace("@", "")));
                    Judged.fine(Judged.main(unlike.toString(), fixed.replace("@", "")));
                } else {
                    Judged.fault(12, Judged.main(unlike.toString(), call));
                    Judged.fault(12, Judged.main(unlike.toString(), fixed));
                }
            }
        }
        // what a class above an interface has is not found from it, nor what is below
        line("null; @virtual void I.m();");
        line("null; @virtual void Object.m();");
        // a static method of an interface is found from a class that is below it
        fineLine("call void I.si(); call void A.si(); call void B.si();");
    }

    /** "49: it is static" .. "49, 51, 52: the name begins with <" */
    private static void virtualCalls() {
        line("null; @virtual void A.t();");
        line("null; @virtual void I.si();");
        line("null; @virtual void A.<init>();");
        line("null; null; @virtual void Thread.<init>(Runnable);");
        Judged.fault(12, Judged.main("class C { static method void <clinit>() { return; } }", "null; @virtual void C.<clinit>(); return;"));
        fineLine("null; virtual void Abs.a(); null; virtual void I.i(); null; virtual void Object.notify();");
    }

    /** "50: it is static, or abstract, or the instruction stands in a static method and the name is not <init>" */
    private static void specialCalls() {
        line("null; @special void A.m();");
        line("null; @special void Object.notify();");
        fineLine("new A; special void A.<init>(); null; special void Object.<init>(); null; null; special void Thread.<init>(Runnable);");
        String c = MORE + "class C extends Abs implements I { method void q() { load 0; ";
        Judged.fault(12, c + "@special void A.t(); return; } }" + MAIN);
        Judged.fault(12, c + "@special void Abs.a(); return; } }" + MAIN);
        Judged.fault(12, c + "@special void I.i(); return; } }" + MAIN);
        Judged.fine(c + "special void Object.notify(); load 0; special void C.q(); null; special void A.m(); load 0; special void C.<init>(); return; } }" + MAIN);
        Judged.fault(12, MORE + "class C { static method void <clinit>() { null; @special void A.m(); return; } }" + MAIN);
        Judged.fault(12, MORE + "class C { static method void <clinit>() { return; } method void q() { null; @special void C.<clinit>(); return; } }" + MAIN);
        Judged.fine(MORE + "class C { static method void <clinit>() { null; special void A.<init>(); return; } }" + MAIN);
    }

    /** "51: it is not static." */
    private static void staticCalls() {
        line("null; @call void A.m();");
        line("@call void A.m();");
        line("null; @call void Object.wait();");
        line("null; @call void A.<init>();");
        line("@call void Abs.a();");
        Judged.fault(12, Judged.main("class C { static method void <clinit>() { return; } }", "@call void C.<clinit>(); return;"));
        fineLine("push 1; call void Out.print(int); null; call void Runtime.hook(Thread);");
    }

    /** Each instruction tells its own types, also behind one that tells six. */
    private static void typesOfEach() {
        String a = "class A { static method void a(int, int, int, int, int, int) { return; } static method void b(A) { return; } static method void c(A[], A, int, int[], A, Object) { return; } } ";
        String six = "push 1; push 2; push 3; push 4; push 5; push 6; ";
        ThreadJudge x = Judged.loaded(Judged.main(a, "null; " + six + "call void A.a(int, int, int, int, int, int); call void A.b(A); null; null; null; push 1; null; null; null; call void A.c(A[], A, int, int[], A, Object); call void A.b(A); return;"));
        int[] at = {24, 25, 33, 34};
        int[] due = {17, 18, 19, 18};
        for (int k = 0; k < at.length; k++) {
            Judged.due("method of " + at[k], x.instruction(at[k], 2), due[k]);
        }
    }

    /** "52. it is not static, or native." .. "52: c is no interface" .. "the last parameters of m are not that one's, or m gives another type than that one" */
    private static void lambdas() {
        String f = "interface F { abstract method int f(int, A); } interface V { abstract method void v(); } class A { static method int k(Object, int[], int, A) { push 1; give; } static method int e(int, A) { push 1; give; } static method int w(int, B) { push 1; give; } static method int s(int) { push 1; give; } static method int r(A, int) { push 1; give; } static method void n(int, A) { return; } static method Object o(int, A) { null; give; } static method void v() { return; } static method void p(int) { return; } method void m() { return; } static method void <clinit>() { return; } static method int t(int, Object) { push 1; give; } static method int x(int[], A) { push 1; give; } static method int y(A, A) { push 1; give; } static method int z(int[], int, Object) { push 1; give; } } class B extends A { } interface P { abstract method void p(int); } interface H { abstract method void h(Thread); } abstract class Abs { abstract method void v(); } ";
        Judged.fine(Judged.main(f, "null; null; lambda F int A.k(Object, int[], int, A); lambda F int A.e(int, A); lambda V void A.v(); lambda V void B.v(); push 1; lambda V void A.p(int); lambda P void A.p(int); return;"));
        // m has fewer than the interface's, behind a method with six
        String six = "class S { static method void a(int, int, int, int, int, int) { return; } static method int b(A) { push 1; give; } static method int c() { push 1; give; } } ";
        Judged.fault(12, Judged.main(six + f, "@lambda F int S.b(A); pop; return;"));
        Judged.fault(12, Judged.main(six.replace("int) { return", "A) { return") + f, "@lambda F int S.c(); pop; return;"));
        Judged.fault(12, Judged.main(six + f, "@lambda F int S.c(); pop; return;"));
        for (String wrong : new String[] {"A void A.v()", "Abs void A.v()", "Object void A.v()", "F int A.w(int, B)", "F int A.s(int)", "F int A.r(A, int)", "F void A.n(int, A)", "F Object A.o(int, A)",
            "F int A.t(int, Object)", "F int A.x(int[], A)", "F int A.y(A, A)", "F int A.z(int[], int, Object)", "V void A.m()", "P void Out.print(int)", "H void Runtime.hook(Thread)", "V void A.<clinit>()", "F void A.v()", "V void Object.notify()", "V int A.e(int, A)"}) {
            Judged.fault(12, Judged.main(f, "@lambda " + wrong + "; pop; return;"));
        }
    }

    /** "not just one name with parameters is of an abstract method, of c or of what c is below, for which nothing is selected from c (that is the one it is made for)" */
    private static void lambdaIsMadeFor() {
        String f = "interface A { abstract method void a(); } interface B { abstract method void b(); } interface AB implements A, B { } interface AA implements A { abstract method void a(); } interface D implements A { method void a() { return; } } interface E implements D, B { } interface G implements A { abstract method void a(int); } "
            + "interface N { } interface W { abstract method void wait(); } interface Y implements B { method void x() { return; } static method void y() { return; } } interface X implements A { abstract method void wait(); } interface Z implements D { abstract method void a(); } class M { static method void m() { return; } } ";
        for (String right : new String[] {"A", "AA", "E", "Y", "Z", "Runnable"}) {
            Judged.fine(Judged.main(f, "lambda " + right + " void M.m(); pop; return;"));
        }
        for (String wrong : new String[] {"AB", "D", "G", "N"}) {
            Judged.fault(12, Judged.main(f, "@lambda " + wrong + " void M.m(); pop; return;"));
        }
        // of W and X wait() is abstract in themselves: nothing is selected
        Judged.fine(Judged.main(f, "lambda W void M.m(); pop; return;"));
        Judged.fault(12, Judged.main(f, "@lambda X void M.m(); pop; return;"));
        // but from what is below W it is Object's that is selected
        Judged.fine(Judged.main(f + "interface V implements W, A { } ", "lambda V void M.m(); pop; return;").replace("interface V implements W, A { }", "interface V implements A { }"));
    }

    /** "3, 4, 5: the first number is not 0 .. 9." */
    private static void locals() {
        for (int k : new int[] {-2147483648, -1, 10, 11, 2147483647}) {
            line("@load " + k + ";");
            line("push 1; @store " + k + ";");
            line("@inc " + k + " 1;");
        }
        for (int k = 0; k < 10; k++) {
            fineLine("push 1; store " + k + "; load " + k + "; pop; inc " + k + " " + (k * 1000000 - 5) + ";");
        }
        fineLine("push -1; pop; push 10; pop;");
    }

    /** "13, at the text's end: there is no class of the text, neither excluded nor extending one that is (again and again), with static method void main(). (MAIN is that of the first such.)" */
    private static void theMain() {
        Judged.fault(13, "");
        Judged.fault(13, "class A { } # remark\n ");
        Judged.fault(13, "class A { method void main() { return; } }");
        Judged.fault(13, "class A { static method int main() { push 1; give; } }");
        Judged.fault(13, "class A { static method void main(int) { return; } }");
        Judged.fault(13, "class A { static method void Main() { return; } }");
        Judged.fault(13, "interface A { abstract method void main(); }");
        Judged.fault(13, "excluded class A { static method void main() { return; } }");
        Judged.fault(13, "excluded class A { } class B extends A { } class C extends B { static method void main() { return; } }");
        String first = "excluded class A { static method void main() { return; } } class B extends A { static method void main() { return; } } class C { method void main() { return; } } class D implements I { static synchronized method void main() { return; } } excluded interface I { } class E { static method void main() { return; } }";
        ThreadJudge x = Judged.loaded(first);
        x.analyse(0, 300);
        Judged.due("MAIN is one", Judged.ask(x, "main"), 1);
        Judged.due("that of D", x.answered(0), x.classOf(22, 4));
        x = Judged.loaded("class B extends A { static method void main(int) { return; } static method void main() { return; } } class A { }");
        x.analyse(0, 300);
        Judged.ask(x, "main");
        Judged.due("the one without parameters", x.answered(0), 18);
        // what it extends, not what it implements; and of the class itself, not of what it extends
        x = Judged.loaded("class B extends C { } class C { static method void main() { return; } }");
        x.begin();
        Judged.due("MAIN is C's", x.state(0, 3), 17);
        Judged.due("so C begins, B does not", x.count(23), 2);
        // nor of what it implements; the first class that has it counts, not the first that is below such a one
        String own = "{ static method void main() { return; } }";
        String[] texts = {"class B extends D { } class C " + own + " class D " + own, "class B implements I { } class C " + own + " interface I " + own,
            "class B implements I { } class C " + own + " excluded interface I " + own, "abstract class B extends D { } interface J implements I { } abstract class C " + own + " class D " + own + " interface I " + own};
        int[] of = {20, 20, 20, 21};
        for (int k = 0; k < texts.length; k++) {
            ThreadJudge y = Judged.loaded(texts[k]);
            y.begin();
            Judged.due("MAIN of " + texts[k], y.method(y.state(0, 3), 0), of[k]);
        }
        Judged.fault(13, "class B implements I { } excluded interface I " + own);
        Judged.fault(13, "class B extends D { } excluded class D " + own);
        Judged.fine("interface I " + own);
    }
}
