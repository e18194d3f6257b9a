/** THE LIBRARY: each of its classes, its field, each method and instruction, as the text of the document has them. */
public final class LibraryTest {
    private static final String[] CLASSES = {"Object", "Runnable", "String", "Class", "Method", "Throwable", "NullPointer", "Arithmetic", "Index",
        "Cast", "Store", "Size", "Monitor", "State", "NoClass", "NoMethod", "Thread", "Out", "Runtime"};
    /** Of each method: its class, its name and parameters, 1 static, 2 abstract, 8 native, how many instructions. */
    private static final String[] METHODS = {"Object void <init>() 0 1", "Object void wait() 8 0", "Object void notify() 8 0", "Object void notifyAll() 8 0",
        "Runnable void run() 2 0", "Class Class named(String) 9 0", "Class Object newInstance() 8 0", "Class Method find(String) 8 0",
        "Method Object invoke(Object) 8 0", "Thread void <init>() 0 1", "Thread void <init>(Runnable) 0 4", "Thread void run() 0 7",
        "Thread void uncaught(Throwable) 0 1", "Thread void start() 8 0", "Thread void join() 8 0", "Out void print(int) 9 0", "Runtime void hook(Thread) 9 0"};
    /** Of each instruction: its number, its method, what it names, the height before it. */
    private static final int[][] CODE = {{56, 0, 0, 0}, {56, 9, 0, 0}, {3, 10, 0, 0}, {3, 10, 1, 1}, {39, 10, 0, 2}, {56, 10, 0, 0}, {3, 11, 0, 0},
        {38, 11, 0, 1}, {36, 11, 12, 1}, {3, 11, 0, 0}, {38, 11, 0, 1}, {49, 11, 4, 1}, {56, 11, 0, 0}, {56, 12, 0, 0}};
    private static ThreadJudge x;

    public static void main(String[] args) {
        anew();
        howMany();
        classes();
        anew();
        methods();
        instructions();
        theField();
        types();
        beforeTheText();
        Judged.end();
    }

    private static void anew() {
        x = Judged.loaded("class Main { static method void main() { return; } }");
    }

    /** "the library's first (19 classes, 1 field, 17 methods, 14 instructions)" */
    private static void howMany() {
        Judged.due("classes", x.count(3), 20);
        Judged.due("fields", x.count(4), 1);
        Judged.due("methods", x.count(5), 18);
        Judged.due("instructions", x.count(6), 15);
        Judged.due("strings", x.count(7), 0);
    }

    private static void classes() {
        for (int c = 0; c < 19; c++) {
            String name = CLASSES[c];
            boolean thrown = c > 5 && c < 16;
            Judged.due(name + " extends", x.classOf(c, 0), c == 0 ? -1 : thrown ? 5 : 0);
            Judged.due(name + " is an interface", x.classOf(c, 1), c == 1 ? 1 : 0);
            Judged.due(name + " is abstract", x.classOf(c, 2), 0);
            Judged.due(name + " is excluded", x.classOf(c, 3), 0);
            Judged.due(name + "'s name", x.classOf(c, 6), name.length());
            Judged.fault(10, "class @" + name + " { } class Main { static method void main() { return; } }");
            for (int d = 0; d < 19; d++) {
                boolean is = c == d || d == 0 || thrown && d == 5 || c == 16 && d == 1;
                Judged.due(name + " below " + CLASSES[d], x.below(c, d), is ? 1 : 0);
            }
            int from = -1;
            int n = 0;
            for (int m = 0; m < 17; m++) {
                if (METHODS[m].startsWith(name + " ")) {
                    from = from < 0 ? m : from;
                    n++;
                }
            }
            if (n > 0) {
                Judged.due(name + "'s first method", x.classOf(c, 4), from);
            }
            Judged.due(name + "'s methods", x.classOf(c, 5), n);
        }
    }

    private static void methods() {
        int first = 0;
        for (int m = 0; m < 17; m++) {
            String[] words = METHODS[m].split(" ");
            int lines = Integer.parseInt(words[4]);
            Judged.due(METHODS[m] + ": class", x.method(m, 0), java.util.Arrays.asList(CLASSES).indexOf(words[0]));
            Judged.due(METHODS[m] + ": parameters", x.method(m, 1), words[2].endsWith("()") ? 0 : 1);
            Judged.due(METHODS[m] + ": traits", x.method(m, 2), Integer.parseInt(words[3]));
            Judged.due(METHODS[m] + ": first instruction", x.method(m, 3), lines > 0 ? first : -1);
            Judged.due(METHODS[m] + ": how many", x.method(m, 4), lines);
            Judged.due(METHODS[m] + ": place", x.method(m, 5), -1);
            Judged.due(METHODS[m] + ": catches", x.method(m, 6), 0);
            first += lines;
        }
    }

    private static void instructions() {
        for (int i = 0; i < 14; i++) {
            for (int what = 0; what < 4; what++) {
                Judged.due("instruction " + i + ", " + what, x.instruction(i, what), CODE[i][what]);
            }
        }
        Judged.due("the text's first", x.instruction(14, 1), 17);
    }

    /** "field Runnable target;" which is neither static nor final nor volatile. */
    private static void theField() {
        String use = "new Thread; store 0; load 0; lambda Runnable void Main.main(); put Thread.target; load 0; get Thread.target; ";
        Judged.fine(Judged.main("", use + "virtual void Runnable.run(); return;"));
        Judged.fault(23, Judged.main("", use + "@virtual void Thread.start(); return;"));
        Judged.fault(23, Judged.main("", "new Thread; new Object; @put Thread.target; return;"));
        Judged.fault(12, Judged.main("", "@getstatic Thread.target; pop; return;"));
    }

    /** The types that the methods have: a call that tells others finds nothing, or another type. */
    private static void types() {
        for (int m = 0; m < 17; m++) {
            String[] words = METHODS[m].split(" ");
            boolean fixed = (x.method(m, 2) & 1) != 0;
            boolean init = words[2].startsWith("<");
            String op = fixed ? "call " : init ? "special " : "virtual ";
            String receiver = fixed ? "" : "null; ";
            String value = words[2].contains("()") ? "" : words[2].contains("(int)") ? "push 1; " : "null; ";
            String behind = words[1].equals("void") ? "" : "pop; ";
            Judged.fine(Judged.main("", receiver + value + op + words[1] + " " + words[0] + "." + words[2] + "; " + behind + "return;"));
            Judged.fault(12, Judged.main("", receiver + value + "@" + op + (words[1].equals("void") ? "Object " : "void ") + words[0] + "." + words[2] + "; return;"));
            String other = words[2].substring(0, words[2].indexOf('(')) + (value.isEmpty() ? "(Class)" : "(Class[])");
            Judged.fault(12, Judged.main("", receiver + value + "@" + op + words[1] + " " + words[0] + "." + other + "; return;"));
        }
    }

    /** "THE LIBRARY stands before the text, as if this were there" */
    private static void beforeTheText() {
        ThreadJudge y = Judged.loaded("class A { static field int a; method void m() { string \"b\"; pop; string \"a\"; pop; return; } } class Main { field A b; static method void main() { string \"a\"; pop; return; } }");
        Judged.due("A", y.classOf(19, 6), 1);
        Judged.due("Main", y.classOf(20, 6), 4);
        Judged.due("m", y.method(17, 0), 19);
        Judged.due("main", y.method(18, 0), 20);
        Judged.due("m's first", y.method(17, 3), 14);
        Judged.due("main's first", y.method(18, 3), 19);
        Judged.due("b is the first string", y.instruction(14, 2), 0);
        Judged.due("a is the second", y.instruction(16, 2), 1);
        Judged.due("and stays so", y.instruction(19, 2), 1);
        y = Judged.loaded(Judged.main("class A { static field A a; field A b; }", "getstatic A.a; get A.b; pop; return;"));
        Judged.due("a is field 1", y.instruction(14, 2), 1);
        Judged.due("b is field 2", y.instruction(15, 2), 2);
    }
}
