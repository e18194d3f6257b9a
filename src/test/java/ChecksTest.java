/** THE CHECK: heights, rows of monitors, sets of kinds and the faults 20 to 27, sentence by sentence. */
public final class ChecksTest {
    private static final String MORE = "interface I { abstract method void i(); } class A { field int n; field A a; field Object o; field int[] r; field A[] q; field I j; static field int sn; static field A sa; static field A[] sq; "
        + "method void m(int, A) { return; } static method void t(A[], int) { return; } static method void u(I, Object) { return; } static method int g() { push 1; give; } static method A ga() { null; give; } static method void v() { return; } } class B extends A { } class C implements I { } ";
    /** Kinds, and lines that leave them; of each wanted kind those that may be taken. */
    private static final String[] KINDS = {"int", "null", "A", "B", "Object", "int[]", "A[]", "B[]", "Object[]", "Cast", "String", "I", "C"};
    private static final String[] MAKES = {"push 1;", "null;", "new A;", "new B;", "new Object;", "push 1; array int;", "push 1; array A;", "push 1; array B;", "push 1; array Object;", "new Cast;", "string \"a\";", "lambda I void A.v();", "new C;"};

    public static void main(String[] args) {
        tenLocals();
        stackOfEight();
        atTheBeginning();
        whatIsLeft();
        whatCallsLeave();
        setsByWaysBack();
        takesAndLeaves();
        whereItGoesOn();
        withinACatch();
        behindTheLast();
        lowestFirst();
        fewerOrMore();
        otherHeight();
        placeByPlace();
        rowEmptyOrSix();
        rowAtTheEnd();
        otherRow();
        eachOperand();
        nothingIsTaken();
        lastClass();
        elements();
        arraysOfBothSorts();
        localsThatMayBeNothing();
        incOfInt();
        lambdasValues();
        gives();
        emptySets();
        returnsAndGives();
        firstThatHolds();
        firstMethod();
        nothingAtHand();
        Judged.end();
    }

    private static void wrong(int fault, String lines) {
        Judged.fault(fault, Judged.main(MORE, lines));
    }

    private static void fine(String lines) {
        Judged.fine(Judged.main(MORE, lines));
    }

    private static String pushes(int n) {
        return "push 1; ".repeat(n);
    }

    /** "It has ten LOCALS" */
    private static void tenLocals() {
        StringBuilder all = new StringBuilder();
        for (int k = 0; k < 10; k++) {
            all.append("push ").append(k).append("; store ").append(k).append("; ");
        }
        ThreadJudge x = Judged.loaded(Judged.main("", all + "return;"));
        for (int k = 0; k < 10; k++) {
            Judged.due("local " + k, x.kind(34, k, -2), 1);
            Judged.due("local " + k + " at the first", x.kind(14, k, -4), 1);
        }
        Judged.due("no place 10 on an empty stack", x.kind(34, 10, -2), -1);
    }

    /** "and a STACK of up to eight places" .. "21: .. more than eight would be" */
    private static void stackOfEight() {
        ThreadJudge x = Judged.loaded(Judged.main("", pushes(8) + "pop; pop; return;"));
        Judged.due("eight", x.instruction(22, 3), 8);
        Judged.due("the eighth place", x.kind(22, 17, -2), 1);
        Judged.due("no ninth", x.kind(22, 18, -2), -1);
        for (String op : new String[] {"push 1", "string \"a\"", "null", "dup", "under", "getstatic A.sn", "new A", "call int A.g()", "load 0"}) {
            wrong(21, "push 1; store 0; " + pushes(8) + "@" + op + "; return;");
            fine("push 1; store 0; " + pushes(7) + op + "; return;");
        }
        // as many as are there may be taken and left
        fine(pushes(8) + "neg; add; push 1; swap; array int; return;");
        wrong(21, "push 1; store 0; " + pushes(8) + "@lambda I void A.v(); return;");
    }

    /** "At the beginning locals are the receiver (its class), the parameters, and NOTHING." */
    private static void atTheBeginning() {
        String text = Judged.main("class K { method void m(int, K, int[], K[], Object, int) { return; } static method void s(int, K, int[], K[], Object, int) { return; } static method void e() { return; } method void f() { return; } }", "return;");
        int[][] due = {{19, -2, 19, -5, -5, 0, -2, -4, -4, -4}, {-2, 19, -5, -5, 0, -2, -4, -4, -4, -4}, {-4, -4, -4, -4, -4, -4, -4, -4, -4, -4}, {19, -4, -4, -4, -4, -4, -4, -4, -4, -4}};
        for (int m = 0; m < 4; m++) {
            ThreadJudge x = Judged.loaded(text);
            for (int place = 0; place < 10; place++) {
                for (int c = -5; c < 21; c++) {
                    Judged.due("method " + m + ", place " + place + ", kind " + c, x.kind(14 + m, place, c), c == -1 ? -1 : c == due[m][place] ? 1 : 0);
                }
            }
        }
    }

    /** Lines, then all kinds of the whole stack behind them, from below. */
    private static void leaves(String lines, String... kinds) {
        ThreadJudge x = Judged.loaded(Judged.main(MORE, lines + " return;"));
        int last = x.count(6) - 1;
        Judged.due("height behind " + lines, x.instruction(last, 3), kinds.length);
        String names = "int NULL NOTHING array Object A B C I String Thread NullPointer Throwable";
        int[] numbers = {-2, -3, -4, -5, 0, 20, 21, 22, 19, 2, 16, 6, 5};
        for (int k = 0; k < kinds.length; k++) {
            String[] all = names.split(" ");
            for (int n = 0; n < all.length; n++) {
                boolean is = (" " + kinds[k] + " ").contains(" " + all[n] + " ");
                Judged.due("place " + k + " behind " + lines + " is " + all[n], x.kind(last, 10 + k, numbers[n]), is ? 1 : 0);
            }
        }
    }

    /** "What an instruction takes from the stack (the last named is topmost) -> leaves" */
    private static void whatIsLeft() {
        leaves("push 1;", "int");
        leaves("string \"a\";", "String");
        leaves("null;", "NULL");
        leaves("new A; store 1; load 1;", "A");
        leaves("push 1; store 1; null; store 1; load 1;", "NULL");
        leaves("push 1; store 1; inc 1 5; load 1;", "int");
        for (String op : "add sub mul div rem and or xor shl shr".split(" ")) {
            leaves("null; push 1; push 2; " + op + ";", "NULL", "int");
        }
        leaves("push 1; neg;", "int");
        leaves("null; push 1; pop;", "NULL");
        leaves("new A; dup;", "A", "A");
        leaves("new A; string \"a\"; under;", "String", "A", "String");
        leaves("new A; string \"a\"; swap;", "String", "A");
        leaves("new B; get A.a;", "A");
        leaves("new B; get B.n;", "int");
        leaves("null; new A; push 1; put A.n;", "NULL");
        leaves("getstatic A.sa; getstatic A.sq; getstatic A.sn;", "A", "array", "int");
        leaves("null; new A; putstatic A.sa;", "NULL");
        leaves("new Thread;", "Thread");
        leaves("push 1; array int;", "array");
        leaves("push 1; array A;", "array");
        leaves("push 1; array A; push 0; element;", "A");
        leaves("push 1; array int; push 0; element;", "int");
        leaves("push 1; push 1; array int; push 0; push 5; setelement;", "int");
        leaves("push 1; array A; length;", "int");
        leaves("new Object; cast A;", "A");
        leaves("null; cast A[];", "array");
        leaves("new A; is B;", "int");
        leaves("push 9; new A; push 1; null; virtual void A.m(int, A);", "int");
        leaves("null; push 1; call void A.t(A[], int);", "");
        leaves("call A A.ga(); call int A.g();", "A", "int");
        leaves("push 9; lambda I void A.v();", "int", "I");
        leaves("push 9; new A; enter; null; exit;", "int");
        leaves("push 1; ifeq L; new A; goto M; L: new B; M:", "A B");
        leaves("push 1; ifeq L; push 1; goto M; L: null; M:", "int NULL");
        leaves("A: new A; store 1; B: goto E; H: E: return; catch NullPointer A B H; catch State A B H;".replace("E: return;", "load 1; pop; pop; E: null; pop; push 1;").replace("load 1; pop; pop;", "pop;"), "int");
    }

    /** "49, 50: receiver, values -> what it gives, if not void. 51: values -> likewise." */
    private static void whatCallsLeave() {
        String[] types = {"int", "Object", "B", "int[]", "B[]"};
        String[] kinds = {"int", "Object", "B", "array", "array"};
        for (int k = 0; k < types.length; k++) {
            String gives = types[k] + (k == 0 ? " @(int) { push 1; give; } " : " @(int) { null; give; } ");
            String g = "class B { } class G { method " + gives.replace("@", "g") + "static method " + gives.replace("@", "s") + "method void u() { null; load 0; push 1; # pop; pop; return; } } ";
            for (String op : new String[] {"virtual @ G.g(int);", "special @ G.g(int);", "swap; pop; call @ G.s(int);"}) {
                ThreadJudge x = Judged.loaded(Judged.main(g.replace("#", op.replace("@", types[k])), "return;"));
                int i = x.method(19, 3) + x.method(19, 4) - 3;
                Judged.due("height behind " + op + types[k], x.instruction(i, 3), 2);
                int[] told = {-2, 0, 19, -5, -3, -4};
                String[] names = {"int", "Object", "B", "array", "NULL", "NOTHING"};
                for (int n = 0; n < told.length; n++) {
                    Judged.due(names[n] + " behind " + op + types[k], x.kind(i, 11, told[n]), names[n].equals(kinds[k]) ? 1 : 0);
                }
            }
        }
    }

    /** "SETS: the least ones such that what comes to an instruction holds all that its forerunners leave." by ways back, also where the last line is within a 'catch' */
    private static void setsByWaysBack() {
        String back = "goto S; H: pop; return; S: push 1; store 1; L: load 1; pop; null; store 1; # push 1; ifeq L; $ return; ";
        for (int k = 0; k < 3; k++) {
            String lines = back.replace("#", k == 0 ? "" : "A:").replace("$", k == 0 ? "" : "B:") + (k == 0 ? "" : k == 1 ? "catch Throwable A B H;" : "catch Throwable A B H; catch Cast A B H;");
            ThreadJudge x = Judged.loaded(Judged.main("", lines));
            Judged.due("int at first", x.kind(19, 1, -2), 1);
            Judged.due("NULL by the way back", x.kind(19, 1, -3), 1);
            Judged.due("int on the stack", x.kind(20, 10, -2), 1);
            Judged.due("NULL on the stack", x.kind(20, 10, -3), 1);
        }
        // what comes to a catch by the last line alone, from above by a way back
        ThreadJudge x = Judged.loaded(Judged.main("", "push 1; store 1; goto S; H: pop; load 1; pop; goto S; T: null; store 1; A: push 1; ifeq T; B: return; S: push 1; ifeq T; return; catch Throwable A B H;"));
        Judged.due("NULL at S", x.kind(26, 1, -3), 1);
        Judged.due("int at S", x.kind(26, 1, -2), 1);
        Judged.due("NULL at H", x.kind(18, 1, -3), 1);
        Judged.due("no int at H", x.kind(18, 1, -2), 0);
        Judged.due("Throwable at H", x.kind(17, 10, 5), 1);
    }

    private static void leaves(String lines, String none) {
        ThreadJudge x = Judged.loaded(Judged.main(MORE, lines + " return;"));
        if (none.isEmpty()) {
            Judged.due("nothing behind " + lines, x.instruction(x.count(6) - 1, 3), 0);
        } else {
            leaves(lines, new String[] {none});
        }
    }

    /** "FAULTS .. 21: fewer are there than it takes" of each instruction, and how many it leaves */
    private static void takesAndLeaves() {
        String[] ops = {"store 1", "add", "sub", "mul", "div", "rem", "neg", "and", "or", "xor", "shl", "shr", "pop", "dup", "under", "swap", "ifeq E", "ifne E", "iflt E", "ifge E", "ifgt E", "ifle E",
            "cmpeq E", "cmpne E", "cmplt E", "cmpge E", "cmpgt E", "cmple E", "same E", "other E", "ifnull E", "ifsome E", "get A.n", "put A.n", "putstatic A.sn", "array int", "element", "setelement", "length",
            "cast A", "is A", "virtual void A.m(int, A)", "virtual void Object.notify()", "call void A.t(A[], int)", "lambda I void A.u(I, Object)", "enter", "exit", "throw", "give"};
        int[] takes = {1, 2, 2, 2, 2, 2, 1, 2, 2, 2, 2, 2, 1, 1, 2, 2, 1, 1, 1, 1, 1, 1, 2, 2, 2, 2, 2, 2, 2, 2, 1, 1, 1, 2, 1, 1, 2, 3, 1, 1, 1, 3, 1, 2, 2, 1, 1, 1, 1};
        for (int k = 0; k < ops.length; k++) {
            String row = ops[k].equals("exit") ? "null; enter; " : "";
            wrong(21, row + pushes(takes[k] - 1) + "@" + ops[k] + "; E: return;");
            // with as many as it takes another fault comes, if any: not 21
            ThreadJudge x = Judged.of(Judged.main(MORE, row + pushes(takes[k]) + ops[k] + "; E: " + (ops[k].equals("enter") ? "null; exit; " : "") + "return;"));
            Judged.yes(ops[k] + " has enough", x.load() != 21);
        }
        for (String op : new String[] {"push 1", "string \"a\"", "null", "goto E", "getstatic A.sn", "new A", "call int A.g()", "lambda I void A.v()", "inc 1 1"}) {
            fine("push 1; store 1; " + op + "; E: return;");
        }
        wrong(21, "new A; push 1; @virtual void A.m(int, A); return;");
        wrong(21, "@special void A.<init>(); return;");
    }

    /** "It goes on with the next one, and to its label (21 to the label alone; 55, 56, 57 to none)." */
    private static void whereItGoesOn() {
        ThreadJudge x = Judged.loaded(Judged.main("class G { static method int g() { push 1; give; pop; } static method void t() { null; throw; pop; } }",
            "push 1; ifeq L; goto M; pop; pop; L: return; pop; M: return; pop;"));
        int[] heights = {0, 1, -1, 0, 1, -1, 0, 1, 0, -1, -1, 0, -1, 0, -1};
        for (int k = 0; k < heights.length; k++) {
            Judged.due("height of " + (14 + k), x.instruction(14 + k, 3), heights[k]);
            Judged.due("kinds of " + (14 + k), x.kind(14 + k, 0, 0), heights[k] < 0 ? -1 : 0);
        }
        // each jump goes on both ways
        for (String op : "ifeq ifne iflt ifge ifgt ifle".split(" ")) {
            wrong(21, "push 1; " + op + " L; return; L: @pop; return;");
            wrong(21, "push 1; " + op + " L; @pop; L: return;");
        }
        for (String op : "cmpeq cmpne cmplt cmpge cmpgt cmple same other".split(" ")) {
            wrong(21, "push 1; push 1; " + op + " L; return; L: @pop; return;");
            wrong(21, "push 1; push 1; " + op + " L; @pop; L: return;");
        }
        for (String op : "ifnull ifsome".split(" ")) {
            wrong(21, "push 1; " + op + " L; return; L: @pop; return;");
            wrong(21, "push 1; " + op + " L; @pop; L: return;");
        }
        fine("goto L; pop; pop; L: return;");
        wrong(21, "goto L; pop; pop; L: @pop; return;");
    }

    /** "From each instruction within a 'catch' (its first label up to before its second) to its third, with the locals as they are before the instruction, and a stack of the class that it names alone." */
    private static void withinACatch() {
        ThreadJudge x = Judged.loaded(Judged.main(MORE, "push 1; push 2; A: new A; store 1; null; store 1; B: string \"a\"; store 1; pop; pop; return; H: return; catch State A B H;"));
        int h = x.count(6) - 1;
        Judged.due("height of H", x.instruction(h, 3), 1);
        Judged.due("the class alone", x.kind(h, 10, 13), 1);
        Judged.due("just that", x.kind(h, 10, 5), 0);
        Judged.due("no int is there", x.kind(h, 10, -2), 0);
        Judged.due("the local before the first", x.kind(h, 1, -4), 1);
        Judged.due("the local before the third", x.kind(h, 1, 20), 1);
        Judged.due("not as it is behind the last", x.kind(h, 1, -3), 0);
        Judged.due("nor before the second label's", x.kind(h, 1, 2), 0);
        // several of one label: the classes of both
        x = Judged.loaded(Judged.main("", "A: push 1; pop; B: return; H: return; catch State A B H; catch Cast A B H;"));
        Judged.due("State", x.kind(17, 10, 13), 1);
        Judged.due("Cast", x.kind(17, 10, 9), 1);
        // from instructions that go on to none, too
        x = Judged.loaded(Judged.main("", "A: return; B: pop; H: return; catch State A B H;"));
        Judged.due("from 56", x.instruction(16, 3), 1);
        x = Judged.loaded(Judged.main("", "null; goto A; A: throw; B: pop; H: return; catch State A B H;"));
        Judged.due("from 55", x.instruction(18, 3), 1);
        // what is not come to goes on to none
        x = Judged.loaded(Judged.main("", "return; A: return; B: pop; H: return; catch State A B H;"));
        Judged.due("not from there", x.instruction(17, 3), -1);
        x = Judged.loaded(Judged.main("", "push 1; goto H; A: null; pop; B: return; H: return; catch State A B H; catch Cast A B H;"));
        Judged.due("come to by another way", x.instruction(19, 3), 1);
        Judged.due("int is there", x.kind(19, 10, -2), 1);
        Judged.due("no State from there", x.kind(19, 10, 13), 0);
        Judged.due("no Cast", x.kind(19, 10, 9), 0);
        x = Judged.loaded(Judged.main("", "C: push 1; pop; D: return; A: null; pop; B: return; H: return; catch State A B H; catch Cast C D H;"));
        Judged.due("come to by another 'catch'", x.instruction(20, 3), 1);
        Judged.due("its class", x.kind(20, 10, 9), 1);
        Judged.due("not the one from there", x.kind(20, 10, 13), 0);
        // its first label's instruction is within, its second's is not
        x = Judged.loaded(Judged.main("", "return; A: push 1; B: return; H: return; catch State A B H;"));
        Judged.due("within none that is come to", x.instruction(17, 3), -1);
        x = Judged.loaded(Judged.main("", "goto B; A: push 1; B: return; H: return; catch State A B H;"));
        Judged.due("the second's is not within", x.instruction(17, 3), -1);
        x = Judged.loaded(Judged.main("", "goto A; X: push 1; A: return; B: push 1; H: return; catch State A B H;"));
        Judged.due("the first's is within", x.instruction(18, 3), 1);
    }

    /** "20: it is behind the method's last one (place: the method's name; nothing else is asked there, and it is looked at last)" */
    private static void behindTheLast() {
        String[] ends = {"push 1;", "push 1; pop;", "null; enter;", "push 1; ifeq L; return; L:", "goto L; L:", "push 1; push 1; cmplt L; return; L: M:", "A: return; B: pop; H: catch Throwable A B H;",
            "A: push 1; pop; B: return; H: push 1; catch Throwable A B H;", "L:", "new A; enter; null; exit;", "push 1; push 1; push 1; push 1; push 1; push 1; push 1; push 1;"};
        for (String end : ends) {
            Judged.fault(20, MORE + "class Main { static method void @main() { " + end + " } }");
            Judged.fault(20, MORE + "class Main { static method void main() { return; } method int @m(int) { " + end + " } }");
        }
        // looked at last: any other fault of heights counts ahead of it, none of sets
        wrong(21, "push 1; ifeq L; goto E; L: @pop; return; E:");
        wrong(21, "push 1; ifeq E; @pop; return; E:");
        wrong(22, "push 1; ifeq E; L: push 1; @goto L; E:");
        wrong(27, "push 1; ifeq E; null; enter; @return; E:");
        Judged.fault(20, MORE + "class Main { static method void @main() { null; neg; pop; push 1; ifeq E; null; give; E: } }");
        fine("return; push 1;");
    }

    /** "The lowest instruction that is come to and was not looked at is looked at, then the others" */
    private static void lowestFirst() {
        wrong(21, "goto X; Y: @pop; return; X: push 1; ifeq Y; pop; return;");
        wrong(21, "push 1; ifeq Y; @pop; return; Y: pop; return;");
        wrong(21, "push 1; ifeq Y; goto X; Y: @pop; return; X: add; return;");
        // an instruction behind is looked at, then one before it that it comes to
        wrong(21, "goto X; Y: @pop; return; Z: return; X: push 1; ifeq Y; goto Z;");
        // which one gives another height is the one that is looked at later
        wrong(22, "goto X; L: return; X: push 1; push 1; ifeq L; @goto L;".replace("X: push 1; push 1; ifeq L; @goto L;", "X: push 1; push 1; ifeq L; pop; @goto L;"));
        wrong(22, "push 1; ifeq B; push 1; A: @goto C; B: push 1; push 1; goto A; C: return;".replace("A: @goto C", "A: goto C").replace("push 1; goto A", "push 1; @goto A"));
    }

    /** "in this order: .. 21 .. ; 25 and 27; then .. 22 .. ; 26" at one instruction */
    private static void fewerOrMore() {
        wrong(21, "@exit; return;");
        wrong(21, "null; enter; @exit; return;");
        wrong(21, "null; enter; @give;");
        wrong(21, "null; enter; null; enter; null; enter; null; enter; null; enter; null; enter; @enter; return;");
        wrong(21, "push 1; ifeq L; null; enter; @pop; L: return;");
        wrong(25, "push 1; ifeq L; null; @exit; push 1; L: return;");
        wrong(21, "A: @pop; B: return; H: push 1; goto A; catch Throwable A B H;");
    }

    /** "22: the height there is another one already" */
    private static void otherHeight() {
        wrong(22, "L: push 1; @goto L;");
        wrong(22, "push 1; push 1; ifeq L; @pop; L: return;");
        wrong(22, "push 1; ifeq L; @push 1; L: return;");
        wrong(22, "push 1; L: push 1; push 1; @ifeq L; return;");
        wrong(22, "H: A: @push 1; pop; B: return; catch Throwable A B H;");
        wrong(22, "push 1; ifeq H; A: @push 1; pop; B: return; H: return; catch Throwable A B H;");
        fine("push 1; ifeq L; null; goto H; L: A: push 1; pop; B: return; H: return; catch Throwable A B H;");
        fine("L: push 1; ifeq L; push 1; M: push 1; ifeq M; return;");
        fine("push 1; push 1; M: pop; push 1; push 1; ifeq M; return;");
    }

    /** "then place by place where it goes on: the next one, its label, the labels of 'catch' that it is in, in order" */
    private static void placeByPlace() {
        // the next one has another row, the label another height
        wrong(26, "push 1; ifeq N; push 1; push 1; ifeq L; pop; null; enter; push 1; @ifeq L; N: return; L: return;");
        // the next one has another height, the label another row
        wrong(22, "push 1; push 1; ifeq N; pop; push 1; ifeq L; null; enter; push 1; @ifeq L; N: return; L: return;");
        // its label has another row, the catch's another height
        wrong(26, "push 1; ifeq L; push 1; ifeq H; null; enter; A: @goto L; B: return; H: return; L: return; catch Throwable A B H;");
        wrong(22, "push 1; ifeq L; null; push 1; ifeq H; push 1; null; enter; A: @goto L; B: return; H: return; L: return; catch Throwable A B H;");
        // of two catches the first is looked at first
        String two = "push 1; ifeq G; null; push 1; ifeq H; null; enter; A: @push 1; B: return; H: return; G: return; ";
        wrong(26, two + "catch Cast A B H; catch State A B G;");
        wrong(22, two + "catch Cast A B G; catch State A B H;");
        // the height ahead of the row at one place
        wrong(22, "push 1; ifeq L; null; push 1; pop; null; @enter; L: return;");
    }

    /** "25: 54 with an empty row, 53 with six" */
    private static void rowEmptyOrSix() {
        wrong(25, "null; @exit; return;");
        wrong(25, "null; enter; null; exit; null; @exit; return;");
        fine("null; enter; ".repeat(6) + "null; exit; ".repeat(6) + "return;");
        wrong(25, "null; enter; ".repeat(6) + "null; @enter; return;");
        fine("null; enter; ".repeat(6) + "null; exit; null; enter; " + "null; exit; ".repeat(6) + "return;");
        wrong(25, "null; enter; ".repeat(2) + "null; exit; ".repeat(2) + "null; @exit; return;");
    }

    /** "27: 56, 57 with one that is not empty" */
    private static void rowAtTheEnd() {
        wrong(27, "null; enter; @return;");
        wrong(27, "null; enter; null; enter; null; exit; @return;");
        Judged.fault(27, Judged.main("class K { static method int m() { null; enter; push 1; @give; } }", "return;"));
        Judged.fault(27, Judged.main("class K { static synchronized method int m() { null; enter; push 1; @give; } }", "return;"));
        fine("null; enter; null; throw;");
        fine("null; enter; null; exit; return;");
        Judged.fine(Judged.main("class K { static synchronized method int m() { push 1; give; } }", "return;"));
    }

    /** "26: where it goes another row is known already" */
    private static void otherRow() {
        wrong(26, "push 1; ifeq L; null; @enter; L: return;");
        wrong(26, "L: null; enter; @goto L;");
        // as long, but of another 53
        wrong(26, "push 1; ifeq X; null; enter; goto L; X: null; @enter; L: null; exit; return;");
        wrong(26, "null; enter; push 1; ifeq X; null; enter; goto L; X: null; @enter; L: null; exit; null; exit; return;");
        // by an instruction that is neither 53 nor a label's
        wrong(26, "push 1; ifeq X; null; enter; push 1; pop; goto L; X: null; enter; push 1; @pop; L: null; exit; return;");
        wrong(26, "push 1; ifeq X; null; enter; push 1; pop; L: null; exit; return; X: null; enter; push 1; pop; @goto L;");
        wrong(26, "null; enter; push 1; ifeq X; null; exit; null; enter; push 1; pop; goto L; X: push 1; @pop; L: null; exit; return;");
        // the same 53s by another way are the same row
        fine("L: null; enter; push 1; ifeq X; null; exit; goto L; X: null; exit; return;");
        fine("null; enter; push 1; ifeq X; push 1; goto L; X: push 2; L: pop; null; exit; return;");
        // at 'catch' as before the instruction
        fine("A: null; enter; B: null; exit; return; H: return; catch Throwable A B H;");
        wrong(26, "A: null; enter; @null; B: exit; return; H: return; catch Throwable A B H;");
        fine("null; enter; A: null; exit; B: return; H: pop; null; exit; return; catch Throwable A B H;");
        wrong(26, "null; enter; A: null; exit; @push 1; B: return; H: pop; null; exit; return; catch Throwable A B H;");
    }

    private static boolean takes(String wanted, int kind) {
        String name = KINDS[kind];
        switch (wanted) {
            case "int": return kind == 0;
            case "any": return true;
            case "reference": return kind != 0;
            case "Object": return kind != 0;
            case "A": return "null A B".contains(name) && !name.equals("I");
            case "int[]": return name.equals("null") || name.equals("int[]");
            case "A[]": return name.equals("null") || name.equals("A[]") || name.equals("B[]");
            case "I": return name.equals("null") || name.equals("I") || name.equals("C");
            case "Throwable": return name.equals("null") || name.equals("Cast");
            default: return name.equals("null") || name.endsWith("[]");
        }
    }

    private static String make(String wanted) {
        for (int k = KINDS.length - 1; k >= 0; k--) {
            if (takes(wanted, k)) {
                return MAKES[k];
            }
        }
        return "";
    }

    /** An instruction with each kind, and each two kinds, at each of its operands. */
    private static void operands(String op, String behind, String... wanted) {
        for (int place = 0; place < wanted.length; place++) {
            StringBuilder before = new StringBuilder();
            StringBuilder after = new StringBuilder();
            for (int k = 0; k < wanted.length; k++) {
                (k < place ? before : after).append(k == place ? "" : make(wanted[k])).append(' ');
            }
            for (int a = 0; a < KINDS.length; a++) {
                boolean right = takes(wanted[place], a);
                String lines = before + MAKES[a] + after + "@" + op + "; " + behind;
                if (right) {
                    fine(lines.replace("@", ""));
                } else {
                    wrong(23, lines);
                }
                int b = (a * 5 + 3 + place) % KINDS.length;
                if (!wanted[place].equals("array")) {
                    lines = before + "push 1; ifeq X; " + MAKES[a] + " goto Y; X: " + MAKES[b] + " Y: " + after + "@" + op + "; " + behind;
                    if (right && takes(wanted[place], b)) {
                        fine(lines.replace("@", ""));
                    } else {
                        wrong(23, lines);
                    }
                }
            }
        }
    }

    /** "23: a kind that it takes is not as told (a receiver: each kind NULL or below the named class; a value: each NULL or below the wanted type, or int .." */
    private static void eachOperand() {
        for (String op : "add sub mul div rem and or xor shl shr".split(" ")) {
            operands(op, "return;", "int", "int");
        }
        operands("neg", "return;", "int");
        operands("pop", "return;", "any");
        operands("dup", "return;", "any");
        operands("under", "return;", "any", "any");
        operands("swap", "return;", "any", "any");
        operands("store 1", "return;", "any");
        for (String op : "ifeq ifne iflt ifge ifgt ifle".split(" ")) {
            operands(op + " E", "E: return;", "int");
        }
        for (String op : "cmpeq cmpne cmplt cmpge cmpgt cmple".split(" ")) {
            operands(op + " E", "E: return;", "int", "int");
        }
        operands("same E", "E: return;", "reference", "reference");
        operands("other E", "E: return;", "reference", "reference");
        operands("ifnull E", "E: return;", "reference");
        operands("ifsome E", "E: return;", "reference");
        for (int a = 0; a < KINDS.length; a++) {
            String lines = "null; enter; " + MAKES[a] + " @exit; return;";
            if (takes("reference", a)) {
                fine(lines.replace("@", ""));
            } else {
                wrong(23, lines);
            }
            wrong(23, "null; enter; push 1; ifeq X; push 1; goto Y; X: " + MAKES[a] + " Y: @exit; return;");
        }
        operands("get A.n", "return;", "A");
        operands("put A.n", "return;", "A", "int");
        operands("put A.a", "return;", "A", "A");
        operands("put A.o", "return;", "A", "Object");
        operands("put A.r", "return;", "A", "int[]");
        operands("put A.q", "return;", "A", "A[]");
        operands("put A.j", "return;", "A", "I");
        operands("putstatic A.sn", "return;", "int");
        operands("putstatic A.sa", "return;", "A");
        operands("putstatic A.sq", "return;", "A[]");
        operands("array int", "return;", "int");
        operands("array A", "return;", "int");
        operands("element", "return;", "array", "int");
        operands("length", "return;", "array");
        operands("cast A", "return;", "reference");
        operands("cast int[]", "return;", "reference");
        operands("is A", "return;", "reference");
        operands("virtual void A.m(int, A)", "return;", "A", "int", "A");
        operands("virtual void Object.notify()", "return;", "Object");
        operands("virtual void I.i()", "return;", "I");
        operands("special void A.<init>()", "return;", "A");
        operands("call void A.t(A[], int)", "return;", "A[]", "int");
        operands("call void A.u(I, Object)", "return;", "I", "Object");
        operands("lambda I void A.u(I, Object)", "return;", "I", "Object");
        operands("enter", "null; exit; return;", "reference");
        operands("throw", "", "Throwable");
    }

    /** Lines of which one takes what a local that is NOTHING holds: any kind is taken there, but int, references and arrays are other ones. */
    private static void takesNothing(String op, String tail, String ahead, String... wants) {
        for (int k = 0; k < wants.length; k++) {
            boolean any = wants[k].equals("any");
            StringBuilder lines = new StringBuilder("goto S; T: ");
            lines.append(any ? "" : "@").append(op).append("; ").append(tail).append(" S: ").append(ahead);
            for (int j = 0; j < wants.length; j++) {
                String value = wants[j].equals("int") ? "push 1; " : "null; ";
                lines.append(j != k ? value : any ? "@load 9; " : "load 9; ");
            }
            wrong(23, lines + "goto T;");
        }
    }

    /** "A reference is any kind but int and NOTHING." and the first instruction that holds counts, not the one that took NOTHING from a local */
    private static void nothingIsTaken() {
        for (String op : "add sub mul div rem and or xor shl shr".split(" ")) {
            takesNothing(op, "return;", "", "int", "int");
        }
        for (String op : "ifeq ifne iflt ifge ifgt ifle".split(" ")) {
            takesNothing(op + " E", "E: return;", "", "int");
        }
        for (String op : "cmpeq cmpne cmplt cmpge cmpgt cmple".split(" ")) {
            takesNothing(op + " E", "E: return;", "", "int", "int");
        }
        for (String op : "neg,array int,array A".split(",")) {
            takesNothing(op, "return;", "", "int");
        }
        for (String op : "pop,dup,store 1".split(",")) {
            takesNothing(op, "return;", "", "any");
        }
        takesNothing("under", "return;", "", "any", "any");
        takesNothing("swap", "return;", "", "any", "any");
        takesNothing("same E", "E: return;", "", "reference", "reference");
        takesNothing("other E", "E: return;", "", "reference", "reference");
        takesNothing("ifnull E", "E: return;", "", "reference");
        takesNothing("ifsome E", "E: return;", "", "reference");
        takesNothing("enter", "null; exit; return;", "", "reference");
        takesNothing("exit", "return;", "null; enter; ", "reference");
        takesNothing("throw", "", "", "Throwable");
        for (String op : "cast A,cast int[],is A,is A[],get A.n,putstatic A.sa,putstatic A.sq,length,virtual void I.i(),special void A.<init>()".split(",")) {
            takesNothing(op, "return;", "", "reference");
        }
        takesNothing("putstatic A.sn", "return;", "", "int");
        takesNothing("put A.n", "return;", "", "A", "int");
        takesNothing("put A.o", "return;", "", "A", "Object");
        takesNothing("element", "return;", "", "array", "int");
        takesNothing("virtual void A.m(int, A)", "return;", "", "A", "int", "A");
        takesNothing("call void A.t(A[], int)", "return;", "", "A[]", "int");
        takesNothing("lambda I void A.u(I, Object)", "return;", "", "I", "Object");
        takesNothing("setelement", "return;", "", "array", "int", "any");
        for (String array : new String[] {"int", "A"}) {
            wrong(23, "goto S; T: @setelement; return; S: push 1; array " + array + "; push 1; load 9; goto T;");
        }
        for (String type : new String[] {"int", "A", "Object", "int[]", "A[]"}) {
            Judged.fault(23, Judged.main(MORE + "class K { static method " + type + " m() { goto S; T: @give; S: load 9; goto T; } }", "return;"));
        }
        ThreadJudge x = Judged.of(Judged.main("", "goto S; T: pop; return; S: load 9; goto T;"));
        Judged.due("taken by 3 all the same", x.load(), 23);
        wrong(23, "goto S; T: @inc 1 1; pop; return; S: load 9; dup; store 1; goto T;");
    }

    /** The last of 24 classes is a kind of its own: none of int, NULL, NOTHING, arrays. */
    private static void lastClass() {
        StringBuilder classes = new StringBuilder();
        for (int k = 0; k < 22; k++) {
            classes.append("class C").append(k).append(" { } ");
        }
        classes.append("class Z { static field Z z; static field Z[] q; static field int n; static field Object o; } ");
        // Z 41, Main 42: then the other way round
        for (int last = 0; last < 2; last++) {
            String main = Judged.main("", "null; new Z; new Main; push 1; array Z; push 1; array Main; push 1; array int; push 1; new Z; return;");
            ThreadJudge x = Judged.loaded(last == 0 ? classes + main : main + " " + classes);
            int end = x.count(6) - 1;
            int z = last == 0 ? 41 : 42;
            int m = last == 0 ? 42 : 19;
            int[] due = {-3, z, m, -5, -5, -5, -2, z};
            for (int k = 0; k < due.length; k++) {
                for (int c = -5; c < 43; c++) {
                    Judged.due("place " + k + ", kind " + c, x.kind(end, 10 + k, c), c == -1 ? -1 : c == due[k] ? 1 : 0);
                }
                Judged.due("no kind 43", x.kind(end, 10 + k, 43), -1);
            }
            for (int k = 0; k < 10; k++) {
                for (int c = -5; c < 43; c++) {
                    Judged.due("local " + k + ", kind " + c, x.kind(end, k, c), c == -1 ? -1 : c == -4 ? 1 : 0);
                }
            }
            String head = last == 0 ? classes.toString() : "";
            String tail = last == 0 ? "" : " " + classes;
            String[] right = {"new Z; putstatic Z.z;", "null; putstatic Z.z;", "push 1; array Z; putstatic Z.q;", "push 1; array Z; putstatic Z.o;", "new Z; putstatic Z.o;",
                "push 1; putstatic Z.n;", "push 1; array Z; push 0; element; putstatic Z.z;", "push 1; array Main; putstatic Z.o;", "new Main; putstatic Z.o;", "null; throw;"};
            String[] wrong = {"push 1; @putstatic Z.z;", "new Z; @putstatic Z.n;", "new Main; @putstatic Z.n;", "push 1; array Z; @putstatic Z.z;", "new Z; @putstatic Z.q;", "push 1; array Main; @putstatic Z.q;",
                "push 1; array Object; @putstatic Z.q;", "push 1; array int; @putstatic Z.q;", "push 1; array Main; push 0; element; @putstatic Z.z;", "new Main; @neg;", "new Z; @neg;", "new Z; @throw;", "new Main; push 0; @element;"};
            for (String lines : right) {
                Judged.fine(head + Judged.main("", lines + " return;") + tail);
            }
            for (String lines : wrong) {
                Judged.fault(23, head + Judged.main("", lines + " return;") + tail);
            }
        }
    }

    /** "45: the value int for int[], else a reference" */
    private static void elements() {
        for (int a = 0; a < KINDS.length; a++) {
            String ints = "push 1; array int; push 0; " + MAKES[a] + " @setelement; return;";
            String as = "push 1; array A; push 0; " + MAKES[a] + " @setelement; return;";
            if (a == 0) {
                fine(ints.replace("@", ""));
                wrong(23, as);
            } else {
                wrong(23, ints);
                fine(as.replace("@", ""));
            }
            String array = MAKES[a] + " push 0; push 1; @setelement; return;";
            if (KINDS[a].equals("null") || KINDS[a].equals("int[]")) {
                fine(array.replace("@", ""));
            } else {
                wrong(23, array);
            }
            String index = "push 1; array int; " + MAKES[a] + " push 1; @setelement; return;";
            if (a == 0) {
                fine(index.replace("@", ""));
            } else {
                wrong(23, index);
            }
        }
        // an array that is NULL or of classes, a value that is int or a reference
        wrong(23, "push 1; array A; push 0; push 1; ifeq X; null; goto Y; X: push 1; Y: @setelement; return;");
        wrong(23, "push 1; ifeq X; null; goto Y; X: push 1; array A; Y: push 0; push 1; @setelement; return;");
        fine("push 1; ifeq X; null; goto Y; X: push 1; array int; Y: push 0; push 1; setelement; return;");
    }

    /** "of an array: NULL, int[] or arrays of classes, not both of these" */
    private static void arraysOfBothSorts() {
        String both = "push 1; ifeq X; push 1; array int; goto Y; X: push 1; array A; Y: ";
        String two = "push 1; ifeq X; push 1; array B; goto Y; X: push 1; array C; Y: ";
        String none = "push 1; ifeq X; push 1; array A; goto Y; X: null; Y: ";
        String some = "push 1; ifeq X; push 1; array A; goto Y; X: new A; Y: ";
        wrong(23, both + "push 0; @element; pop; return;");
        wrong(23, both + "push 0; push 1; @setelement; return;");
        wrong(23, both + "push 0; null; @setelement; return;");
        wrong(23, some + "push 0; @element; pop; return;");
        wrong(23, some + "push 0; null; @setelement; return;");
        wrong(23, some + "@length; pop; return;");
        for (String right : new String[] {two, none}) {
            fine(right + "push 0; element; pop; return;");
            fine(right + "push 0; null; setelement; return;");
            fine(right + "length; pop; return;");
        }
        fine(both + "ifnull E; E: return;");
        // beside other things on the stack
        leaves("push 9; null; push 1; array A; push 0; element;", "int", "NULL", "A");
        leaves("push 9; null; push 1; array int; push 0; element;", "int", "NULL", "int");
        leaves("push 1; array A; null;", "array", "NULL");
        leaves("null; push 1; array int; push 1;", "NULL", "array", "int");
        ThreadJudge x = Judged.loaded(Judged.main(MORE, two + "push 0; element; return;"));
        int last = x.count(6) - 1;
        Judged.due("B", x.kind(last, 10, 21), 1);
        Judged.due("C", x.kind(last, 10, 22), 1);
        Judged.due("no A", x.kind(last, 10, 20), 0);
    }

    /** "a local that is NOTHING, or may be, can't be taken by 3" */
    private static void localsThatMayBeNothing() {
        for (int k = 0; k < 10; k++) {
            wrong(23, "@load " + k + "; pop; return;");
            wrong(23, "push 1; ifeq L; push 1; store " + k + "; L: @load " + k + "; pop; return;");
            fine("push 1; ifeq L; push 1; store " + k + "; goto M; L: null; store " + k + "; M: load " + k + "; pop; return;");
            wrong(23, "A: push 1; store " + k + "; B: return; H: pop; @load " + k + "; pop; return; catch Throwable A B H;");
            fine("push 1; store " + k + "; A: push 1; pop; B: return; H: pop; load " + k + "; pop; return; catch Throwable A B H;");
        }
        Judged.fault(23, Judged.main("class K { method void m(int) { load 0; pop; load 1; pop; @load 2; pop; return; } }", "return;"));
    }

    /** "5: int alone" */
    private static void incOfInt() {
        wrong(23, "@inc 1 1; return;");
        wrong(23, "push 1; ifeq L; push 1; store 1; L: @inc 1 1; return;");
        for (int a = 0; a < KINDS.length; a++) {
            if (a == 0) {
                fine(MAKES[a] + " store 1; inc 1 1; return;");
            } else {
                wrong(23, MAKES[a] + " store 1; @inc 1 1; return;");
            }
        }
        wrong(23, "push 1; ifeq L; push 1; store 1; goto M; L: null; store 1; M: @inc 1 1; return;");
    }

    /** "52: the first values of m, that are not the interface's -> c" */
    private static void lambdasValues() {
        String f = "interface F { abstract method void f(int); } class K { static method void k(K, int[], int) { return; } } ";
        Judged.fine(Judged.main(f, "null; null; lambda F void K.k(K, int[], int); pop; return;"));
        Judged.fine(Judged.main(f, "new K; push 1; array int; lambda F void K.k(K, int[], int); pop; return;"));
        Judged.fault(23, Judged.main(f, "new Object; null; @lambda F void K.k(K, int[], int); pop; return;"));
        Judged.fault(23, Judged.main(f, "null; new K; @lambda F void K.k(K, int[], int); pop; return;"));
        Judged.fault(21, Judged.main(f, "null; @lambda F void K.k(K, int[], int); pop; return;"));
    }

    /** "57: value: ends" of the type that the method gives */
    private static void gives() {
        String[] types = {"int", "A", "Object", "int[]", "A[]", "I", "Throwable"};
        for (String type : types) {
            for (int a = 0; a < KINDS.length; a++) {
                String text = Judged.main(MORE + "class K { static method " + type + " m() { " + MAKES[a] + " @give; } } ", "return;");
                if (takes(type, a)) {
                    Judged.fine(text.replace("@", ""));
                } else {
                    Judged.fault(23, text);
                }
            }
        }
    }

    /** "(44 leaves nothing of NULL: a set may be empty, and all holds of each of its kinds then; 45 takes any value, if the array's set has no array.)" */
    private static void emptySets() {
        String none = "null; push 0; element; ";
        for (String behind : new String[] {"neg; pop;", "ifeq E;", "ifnull E;", "get A.n; pop;", "push 1; put A.n;", "new A; swap; put A.a;", "new A; swap; put A.n;", "putstatic A.sn;", "putstatic A.sa;", "array int; pop;", "length; pop;", "push 0; element; pop;",
            "push 0; push 1; setelement;", "push 0; null; setelement;", "cast A; pop;", "is A; pop;", "virtual void I.i();", "enter; null; exit;", "push 1; add; pop;", "null; same E;", "store 1; load 1; neg; pop; inc 1 1;", "new A; swap; null; virtual void A.m(int, A);"}) {
            fine(none + behind + " E: return;");
        }
        fine(none + "throw;");
        ThreadJudge x = Judged.loaded(Judged.main(MORE, none + "return;"));
        for (int c = -5; c < 23; c++) {
            Judged.due("no kind " + c, x.kind(x.count(6) - 1, 10, c), c == -1 ? -1 : 0);
        }
        for (int a = 0; a < KINDS.length; a++) {
            fine("null; push 0; " + MAKES[a] + " setelement; return;");
            fine(none + "push 0; " + MAKES[a] + " setelement; return;");
        }
        // of NULL and an array those of the array alone
        x = Judged.loaded(Judged.main(MORE, "push 1; ifeq X; null; goto Y; X: push 1; array A; Y: push 0; element; return;"));
        int last = x.count(6) - 1;
        Judged.due("A", x.kind(last, 10, 20), 1);
        Judged.due("not NULL", x.kind(last, 10, -3), 0);
    }

    /** "24: 56 in a method that gives something, 57 in one that does not." .. "(57 is looked at by 23, if its method gives something.)" */
    private static void returnsAndGives() {
        for (String type : new String[] {"int", "A", "A[]", "int[]"}) {
            Judged.fault(24, Judged.main(MORE + "class K { method " + type + " m() { @return; } } ", "return;"));
        }
        for (String make : MAKES) {
            wrong(24, make + " @give;");
        }
        wrong(24, "null; push 0; element; @give;");
        Judged.fine(Judged.main(MORE + "class K { method void m() { return; } method void <init>() { return; } } ", "return;"));
    }

    /** "Then for each instruction that is come to, in order, the first that holds: 23 .. 24" */
    private static void firstThatHolds() {
        wrong(23, "push 1; ifeq L; null; @neg; pop; return; L: push 1; give;");
        wrong(24, "push 1; ifeq L; push 1; @give; L: null; neg; pop; return;");
        wrong(23, "goto L; M: null; @neg; pop; return; L: null; array int; pop; goto M;");
        fine("return; null; neg; pop; push 1; give;");
    }

    /** "A fault of the check is that of the first method that has one: of its HEIGHTS, else of its SETS." */
    private static void firstMethod() {
        Judged.fault(23, Judged.main("class K { static method void m() { null; @neg; pop; return; } static method void n() { pop; return; } } ", "pop; return;"));
        Judged.fault(21, Judged.main("class K { static method void m() { null; neg; pop; @pop; return; } } ", "return;"));
        Judged.fault(24, Judged.main("class K { static method int m() { @return; } static method int n() { push 1; } } ", "pop; return;"));
        Judged.fault(20, Judged.main("class K { static method int @m() { null; neg; } } ", "pop; return;"));
        Judged.fault(21, Judged.main("excluded class K { static method void m() { @pop; return; } } ", "return;"));
        Judged.fault(21, "class Main { static method void main() { @pop; return; } } interface I { method void m() { null; neg; } }");
    }

    /** "At any fault nothing is at hand." */
    private static void nothingAtHand() {
        String[] texts = {"?", "class", "class A { } ".repeat(25), "class A { } class A { }", "class A { field void a; }", Judged.main("", "goto L;"), "class A { }", Judged.main("", "pop; return;"), Judged.main("", "null; neg; pop; return;")};
        int[] faults = {1, 2, 3, 10, 11, 12, 13, 21, 23};
        for (int k = 0; k < texts.length; k++) {
            ThreadJudge x = Judged.loaded(Judged.main("", "return;"));
            x.analyse(0, 300);
            x.begin();
            x.clear();
            Judged.feed(x, texts[k]);
            Judged.due("fault", x.load(), faults[k]);
            for (int what = 3; what <= 24; what++) {
                Judged.due("count(" + what + ") behind fault " + faults[k], x.count(what), 0);
            }
            Judged.due("no class", x.classOf(0, 0) + x.classOf(0, 1), -2);
            Judged.due("no method", x.method(0, 0), -1);
            Judged.due("no instruction", x.instruction(0, 0), -1);
            Judged.due("not below", x.below(0, 0), -1);
            Judged.due("not selected", x.selected(0, 1), -1);
            Judged.due("no kind", x.kind(0, 0, 0), -1);
            Judged.due("no analysis", x.analyse(0, 300), -1);
            Judged.due("no run", x.step(0), -1);
            Judged.yes("no beginning", !x.begin());
            Judged.due("no answer", Judged.ask(x, "all"), -1000);
        }
    }
}
