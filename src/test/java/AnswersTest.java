/** Promise 16, answer and answered: the language of questions, sentence by sentence. */
public final class AnswersTest {
    private static final String TEXT = "class A { method void a() { call void A.s(); return; } method void a(int) { return; } static method void s() { call void B.t(); return; } static method void <clinit>() { return; } } "
        + "class B extends A { static synchronized method void t() { push 1; putstatic Main.n; return; } method void m() { load 0; enter; null; exit; return; } } "
        + "class T extends Thread { method void run() { call void B.t(); getstatic Main.n; pop; return; } } "
        + "class Main { static field int n; static method void main() { new T; virtual void Thread.start(); new A; virtual void A.a(); return; } method void un() { return; } }";
    // a 17, a(int) 18, s 19, <clinit> 20, t 21, m 22, run 23, main 24, un 25
    private static ThreadJudge x;

    public static void main(String[] args) {
        x = Judged.loaded(TEXT);
        x.analyse(0, 300);
        emptyThen();
        words();
        wordsComeFirst();
        namesOfClasses();
        namesOfMethods();
        fromTheLeftOn();
        andBindsMore();
        brackets();
        callersAndCallees();
        intoAndFrom();
        blanks();
        cannotCome();
        endsTooEarly();
        noSuchClass();
        twentyBrackets();
        lastAnswerStays();
        nothingAnalysed();
        answered();
        racingOfSeveral();
        partsInBrackets();
        longQuestions();
        Judged.end();
    }

    private static void is(String question, int... due) {
        Judged.due(question, Judged.ask(x, question), due.length);
        for (int k = 0; k < due.length; k++) {
            Judged.due(question + ", " + k, x.answered(k), due[k]);
        }
        Judged.due(question + ", no more", x.answered(due.length), -1);
    }

    private static void wrong(String marked) {
        int place = marked.indexOf('@');
        String question = place < 0 ? marked : marked.substring(0, place) + marked.substring(place + 1);
        Judged.due(marked, Judged.ask(x, question), -1 - (place < 0 ? question.length() : place));
        x = fresh(x);
    }

    /** "racing (an instruction of a RACE stands in it)": each method of several that race with one instruction, and with several */
    private static void racingOfSeveral() {
        for (int writes = 1; writes < 16; writes++) {
            StringBuilder all = new StringBuilder();
            StringBuilder calls = new StringBuilder();
            for (int k = 0; k < 4; k++) {
                all.append("class C").append(k).append(" { static method void m() { ").append((writes >> k & 1) != 0 ? "push 1; putstatic Main.n; return; } } " : "getstatic Main.n; pop; return; } } ");
                calls.append("call void C").append(k).append(".m(); ");
            }
            // C0's m is run's alone; main calls the others
            ThreadJudge y = Judged.loaded(all + "class T extends Thread { method void run() { call void C0.m(); return; } } class Main { static field int n; static method void main() { new T; virtual void Thread.start(); "
                + calls.substring("call void C0.m(); ".length()) + "return; } }");
            y.analyse(0, 300);
            StringBuilder due = new StringBuilder();
            for (int k = 1; k < 4; k++) {
                due.append((writes & 1) != 0 || (writes >> k & 1) != 0 ? " " + (17 + k) : "");
            }
            if (due.length() > 0) {
                due.insert(0, " 17");
            }
            int n = Judged.ask(y, "racing");
            StringBuilder got = new StringBuilder();
            for (int k = 0; k < n; k++) {
                got.append(" ").append(y.answered(k));
            }
            Judged.yes("racing of " + writes + ":" + got + ", due is" + due, got.toString().equals(due.toString()));
        }
    }

    /** "a PART TERMS with & between", in brackets as without, whatever stands ahead of them */
    private static void partsInBrackets() {
        int[][] sets = {{17, 18, 19, 20}, {21, 22}, {24}, {}};
        String[] names = {"A", "B", "main", "B.x"};
        String[] ahead = {"", "B.x | ", "native - native | ", "T & B | ", "A.x - "};
        for (int p = 0; p < 4; p++) {
            for (int q = 0; q < 4; q++) {
                int[] both = p == q ? sets[p] : new int[0];
                for (String first : ahead) {
                    // on a new object nothing stands from a question before
                    anew();
                    is("(" + names[p] + " & " + names[q] + ")", both);
                    anew();
                    is(first + "((" + names[p] + " & all & " + names[q] + "))", first.endsWith("- ") ? new int[0] : both);
                    is("all & (" + names[p] + " & (" + names[q] + " & all))", both);
                    is("callers(A.s) & (A & (A.a & A))", 17);
                }
            }
        }
    }

    private static int asked;

    /** Another object before one was called too often. */
    private static ThreadJudge fresh(ThreadJudge was) {
        asked++;
        if (asked % 8 != 0) {
            return was;
        }
        ThreadJudge y = Judged.loaded(TEXT);
        y.analyse(0, 300);
        return y;
    }

    private static void anew() {
        x = Judged.loaded(TEXT);
        x.analyse(0, 300);
    }

    /** "The question, which is empty then, is answered: how many methods." */
    private static void emptyThen() {
        Judged.due("all", Judged.ask(x, "all"), 26);
        Judged.due("first sign", x.ask('m'), 1);
        Judged.due("wrong", x.answer(), -1);
        Judged.due("first sign behind a wrong one", x.ask('m'), 1);
        Judged.due("rest", Judged.ask(x, "ain"), 1);
        Judged.due("empty", x.answer(), -1);
    }

    /** "all, main, reached, native, racing (an instruction of a RACE stands in it), locking (it has a 53, or is synchronized), starting (an instruction in it starts some method)" */
    private static void words() {
        anew();
        Judged.due("all", Judged.ask(x, "all"), 26);
        Judged.due("the last", x.answered(25), 25);
        is("main", 24);
        is("reached", 12, 17, 19, 20, 21, 23, 24);
        is("native", 1, 2, 3, 5, 6, 7, 8, 13, 14, 15, 16);
        is("racing", 21, 23);
        is("locking", 21, 22);
        is("starting", 24);
        wrong("@All");
        wrong("@mains");
        wrong("@<init>");
        wrong("@<clinit>");
        wrong("all | @<clinit> ");
        // a 53 that no 54 ends, one that is not come to, and none
        x = Judged.loaded(Judged.main("class K { static method void a() { null; enter; L: goto L; } static method void b() { return; null; enter; } static method void c() { null; throw; } static synchronized method void d() { return; } synchronized method void e() { return; } static method void f() { null; enter; null; exit; return; } } ", "return;"));
        x.analyse(0, 300);
        is("locking", 17, 18, 20, 21, 22);
        anew();
    }

    /** "(these words come before classes of such names)" */
    private static void wordsComeFirst() {
        for (String word : "all main reached native racing locking starting".split(" ")) {
            x = Judged.loaded("class " + word + " { method void own() { return; } } " + TEXT);
            x.analyse(0, 300);
            int n = Judged.ask(x, word);
            Judged.due(word, n, word.equals("all") ? 27 : word.equals("native") ? 11 : word.equals("reached") ? 7 : word.equals("racing") || word.equals("locking") ? 2 : 1);
            Judged.due("no own in " + word, Judged.ask(x, "(" + word + " - all) | " + word + " & Object"), word.equals("all") ? 4 : word.equals("native") ? 3 : 0);
            Judged.due("a full stop can't come", Judged.ask(x, word + ".own"), -1 - word.length());
        }
        for (String word : "callers callees into from".split(" ")) {
            x = Judged.loaded("class " + word + " { method void own() { return; } } " + TEXT);
            x.analyse(0, 300);
            Judged.due(word + " wants a bracket", Judged.ask(x, word), -1 - word.length());
            Judged.due(word + " wants a bracket", Judged.ask(x, word + ".own"), -1 - word.length());
            Judged.due(word + " and a bracket", Judged.ask(x, word + "(A - A)"), 0);
        }
        anew();
    }

    /** "a NAME (all methods of that class)" */
    private static void namesOfClasses() {
        is("A", 17, 18, 19, 20);
        is("B", 21, 22);
        is("Main", 24, 25);
        is("Object", 0, 1, 2, 3);
        is("String");
        is("Thread", 9, 10, 11, 12, 13, 14);
    }

    /** "a NAME, a full stop, a WORD, also a reserved one, of any length (those of it with this name)" */
    private static void namesOfMethods() {
        anew();
        is("A.a", 17, 18);
        is("A.s", 19);
        is("A.<clinit>", 20);
        is("B.a");
        is("B.<init>");
        is("Thread.<init>", 9, 10);
        is("Main.main", 24);
        is("A.all");
        is("A.int");
        is("A.push");
        is("A.class");
        is("A.callers");
        is("A.A");
        is("A." + "x".repeat(190));
        is("A.a_word_that_is_longer_than_24_signs");
        is("A.a2");
        is("A.S");
        is("all.x".replace("all.x", "A.a|A.s"), 17, 18, 19);
    }

    /** "A SUM is PARTS with | and - (without) between, from the left on" */
    private static void fromTheLeftOn() {
        anew();
        is("A | B", 17, 18, 19, 20, 21, 22);
        is("A - A.a", 19, 20);
        is("A - A.a | A.a", 17, 18, 19, 20);
        is("A | B - A", 21, 22);
        is("B - B | B.m", 22);
        is("A - A.s - A.a", 20);
        is("A - B", 17, 18, 19, 20);
        is("A | A", 17, 18, 19, 20);
    }

    /** "a PART TERMS with & between" */
    private static void andBindsMore() {
        anew();
        is("A & reached", 17, 19, 20);
        is("A & reached & starting");
        is("B | A & reached", 17, 19, 20, 21, 22);
        is("A & reached | B", 17, 19, 20, 21, 22);
        is("A - A & reached", 18);
        is("all & A - reached & A | main", 18, 24);
    }

    /** "( SUM )" */
    private static void brackets() {
        anew();
        is("(A)", 17, 18, 19, 20);
        is("(B | A) & reached", 17, 19, 20, 21);
        is("A - (A.a | A.s)", 20);
        is("A - (A - (A - A.s))", 17, 18, 20);
        is("((A) - ((A.a)))", 19, 20);
        is("(A | B) & (B | T) & (reached)", 21);
    }

    /** "callers ..: those that have an instruction that calls (or starts, or lets begin) one of these; callees: those that these call (or start, or let begin)" */
    private static void callersAndCallees() {
        anew();
        is("callers(B.t)", 19, 23);
        is("callers(A.a)", 24);
        is("callers(T.run)", 24);
        is("callers(A.<clinit>)", 17, 19, 23, 24);
        is("callers(main)");
        is("callers(native)");
        is("callees(main)", 12, 17, 20, 23);
        is("callees(A)", 19, 20, 21);
        is("callees(A.a)", 19, 20);
        is("callees(callees(main))", 19, 20, 21);
        is("callers(A | B)", 17, 19, 23, 24);
        is("callees(Main.un)");
        is("callers(A - A)");
    }

    /** "into and from: again and again, with these" */
    private static void intoAndFrom() {
        anew();
        is("into(B.t)", 17, 19, 21, 23, 24);
        is("into(main)", 24);
        is("into(Main.un)", 25);
        is("from(main)", 12, 17, 19, 20, 21, 23, 24);
        is("from(A.s)", 19, 20, 21);
        is("from(B.m)", 22);
        is("into(native) & native", 1, 2, 3, 5, 6, 7, 8, 13, 14, 15, 16);
        is("from(A - A)");
        is("from(into(A.s)) - reached");
    }

    /** "Blanks (32) lie anywhere between words and signs." */
    private static void blanks() {
        anew();
        is("  A  ", 17, 18, 19, 20);
        is("A|B", 17, 18, 19, 20, 21, 22);
        is(" A . a ", 17, 18);
        is("A .a", 17, 18);
        is("A. a", 17, 18);
        is(" callers ( B . t ) ", 19, 23);
        is("callers(B.t)&T", 23);
        wrong("ma@in".replace("ma@in", "@ma in"));
        wrong("A @a");
        wrong("A . a @b");
    }

    /** "- 1 less the place (from 0) of the first sign of the first word or sign that can't come" */
    private static void cannotCome() {
        anew();
        for (String sign : "! # $ % ' * + , / 0 9 : ; = > ? [ ] \\ ^ ` { } ~ \"".split(" ")) {
            wrong("@" + sign);
            wrong("A @" + sign);
            wrong("A | @" + sign + " A");
            wrong("A.@" + sign);
        }
        wrong("@|");
        wrong("@&");
        wrong("@- A");
        wrong("@)");
        wrong("@.a");
        wrong("A @A");
        wrong("A @(B)");
        wrong("A | @| B");
        wrong("A & @- B");
        wrong("A.a@.a");
        wrong("A.@|");
        wrong("A@)");
        wrong("(@)");
        wrong("(A | @)");
        wrong("(A) @A");
        wrong("(A)@.a");
        wrong("callers @A");
        // these words come before classes of such names
        ThreadJudge named = Judged.loaded(Judged.main("class callers { } class into { method void m() { return; } } class all { method void n() { return; } } ", "return;"));
        named.analyse(0, 300);
        Judged.due("callers alone", Judged.ask(named, "callers"), -1 - 7);
        Judged.due("callers and a name", Judged.ask(named, "callers Main"), -1 - 8);
        Judged.due("callers and a full stop", Judged.ask(named, "callers.m"), -1 - 7);
        Judged.due("into and a sign", Judged.ask(named, "into | Main"), -1 - 5);
        Judged.due("all and a full stop", Judged.ask(named, "all.n"), -1 - 3);
        Judged.due("all", Judged.ask(named, "all"), 20);
        wrong("callers(@)");
        wrong("callers @callers(A)");
        wrong("into(A)@(B)");
        wrong("main @main");
        wrong("main@.a");
        wrong("@_");
        wrong("A | @aLL");
        wrong("   @?");
    }

    /** "(how many signs it has, if it ends too early" */
    private static void endsTooEarly() {
        anew();
        for (String question : new String[] {"", " ", "    ", "A|", "A &  ", "A - ", "A.", "A . ", "(", "(A", "(A ", "((A)", "callers", "callers ", "callers(", "callers(A", "from(into(A)", "A | (B & "}) {
            wrong(question);
        }
    }

    /** "a class that there is not: its NAME" */
    private static void noSuchClass() {
        anew();
        wrong("@Q");
        wrong("A | @Q.a");
        wrong("A | @Q ?");
        wrong("callers(@Q)");
        wrong("@a");
        wrong("@push");
        wrong("@int");
        wrong("A & @class.a");
        wrong("@" + "A".repeat(199));
        wrong("@A_name_that_is_too_long_for_a_class | ?");
        wrong("A.a | @<init>");
    }

    /** "more than 20 brackets open: that one" */
    private static void twentyBrackets() {
        anew();
        is("(".repeat(20) + "main" + ")".repeat(20), 24);
        wrong("(".repeat(20) + "@(main" + ")".repeat(21));
        wrong("(".repeat(20) + "@(");
        anew();
        is("from(".repeat(20) + "A.s" + ")".repeat(20), 19, 20, 21);
        wrong("from(".repeat(20) + "from@(A.s");
        // those that were closed do not count
        is("(" + "(A)|".repeat(22) + "A.a" + ")", 17, 18, 19, 20);
        is("(".repeat(19) + "(A)|(A)" + ")".repeat(19), 17, 18, 19, 20);
    }

    /** "the last answer stays" */
    private static void lastAnswerStays() {
        anew();
        is("B", 21, 22);
        Judged.due("wrong", Judged.ask(x, "A |"), -4);
        Judged.due("stays", x.answered(0) * 100 + x.answered(1), 2122);
        Judged.due("no third", x.answered(2), -1);
        is("B - B");
        Judged.due("an empty one is one", x.answered(0), -1);
        is("A.s", 19);
        x.analyse(1, 300);
        Judged.due("analysed anew", x.answered(0), 19);
        x.load();
        Judged.due("gone when loaded", x.answered(0), -1);
        anew();
    }

    /** "- 1,000: nothing analysed, the question stays." */
    private static void nothingAnalysed() {
        ThreadJudge y = new ThreadJudge();
        Judged.due("nothing at hand", Judged.ask(y, "ma"), -1000);
        Judged.feed(y, TEXT);
        y.load();
        Judged.due("nothing analysed", Judged.ask(y, "in"), -1000);
        Judged.due("the question stays", y.ask(' '), 5);
        y.analyse(0, 300);
        Judged.due("answered", y.answer(), 1);
        Judged.due("main", y.answered(0), 24);
        y.load();
        Judged.due("wrong ones, too", Judged.ask(y, "?"), -1000);
        Judged.due("it stays", y.ask('?'), 2);
    }

    /** "The k-th method of the last answer. BAD: none such." */
    private static void answered() {
        anew();
        Judged.due("none yet", x.answered(0), -1);
        is("native | main", 1, 2, 3, 5, 6, 7, 8, 13, 14, 15, 16, 24);
        for (int k : new int[] {-1, -2, 12, 13, 1000, Integer.MIN_VALUE, Integer.MAX_VALUE}) {
            Judged.due("none such " + k, x.answered(k), -1);
        }
        Judged.due("the last", x.answered(11), 24);
    }

    /** A question of 200 signs. */
    private static void longQuestions() {
        anew();
        is("A|".repeat(98) + "A.s ", 17, 18, 19, 20);
        anew();
        is("A" + " ".repeat(199), 17, 18, 19, 20);
        anew();
        Judged.due("full", Judged.ask(x, "A|".repeat(100)), -201);
        anew();
        Judged.due("a sign too many is not taken", Judged.ask(x, "A|".repeat(99) + "A ?"), 4);
    }
}
