/** The smallest program from text to run. */
public final class FirstTest {
    public static void main(String[] args) {
        ThreadJudge x = Judged.loaded(Judged.main("", "push 3; call void Out.print(int); return;"));
        Judged.due("analyse", x.analyse(0, 300), 1);
        Judged.yes("begin", x.begin());
        Judged.due("run", x.run(10, 1), 3);
        Judged.due("said", x.said(0), 3);
        Judged.end();
    }
}
