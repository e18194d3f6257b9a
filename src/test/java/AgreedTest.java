import java.nio.charset.StandardCharsets;
import java.nio.file.Files;
import java.nio.file.Path;
import java.util.List;

/**
 * Programs of src/test/data/agreed.txt: all that is answered about each, against sums of answers on which this class and
 * a second implementation in another language agreed. A line there is: the instances granted,
 * the draw, the fault and its place, the sum of the program and of each policy's analysis and runs (none behind a fault),
 * a bar, the text. With an argument the lines are told with the sums as they are now.
 */
public final class AgreedTest {
    private static final int BOUND = 18;
    private static long sum;

    public static void main(String[] args) throws Exception {
        List<String> lines = Files.readAllLines(Path.of("src/test/data/agreed.txt"), StandardCharsets.ISO_8859_1);
        for (int n = 0; n < lines.size(); n++) {
            int bar = lines.get(n).indexOf(" | ");
            String[] words = lines.get(n).substring(0, bar).split(" ");
            String text = lines.get(n).substring(bar + 3);
            String now = judge(text, Integer.parseInt(words[0]), Integer.parseInt(words[1]));
            String was = lines.get(n).substring(words[0].length() + words[1].length() + 2, bar);
            if (args.length > 0) {
                System.out.println(words[0] + " " + words[1] + " " + now + " | " + text);
            } else if (!now.equals(was)) {
                System.out.println("line " + (n + 1) + ": " + now + ", due is " + was);
                Judged.due("line " + (n + 1), 0, 1);
            } else {
                Judged.due("line " + (n + 1), 1, 1);
            }
        }
        if (args.length == 0) {
            Judged.end();
        }
    }

    private static String judge(String text, int granted, int draw) {
        ThreadJudge x = Judged.of(text);
        int fault = x.load();
        StringBuilder told = new StringBuilder();
        told.append(fault).append(' ').append(x.count(1));
        if (fault != 0) {
            return told.toString();
        }
        sum = 0;
        addProgram(x);
        told.append(' ').append(Long.toHexString(sum));
        for (int policy = 0; policy < 4; policy++) {
            sum = 0;
            add(x.analyse(policy, granted));
            addAnalysis(x);
            addQuestions(x);
            told.append(' ').append(Long.toHexString(sum));
            sum = 0;
            for (int k = 0; k < 3; k++) {
                addRun(x, draw * 7 + k * 13 + policy);
            }
            told.append(' ').append(Long.toHexString(sum));
        }
        return told.toString();
    }

    private static void add(long v) {
        sum = (sum ^ v) * 0x100000001b3L;
        sum ^= sum >>> 29;
    }

    private static void addProgram(ThreadJudge x) {
        for (int k = 3; k < 8; k++) {
            add(x.count(k));
        }
        for (int c = 0; c < x.count(3); c++) {
            for (int k = 0; k < 7; k++) {
                add(x.classOf(c, k));
            }
            for (int d = 0; d < x.count(3); d++) {
                add(x.below(c, d));
            }
            for (int m = 0; m < x.count(5); m++) {
                add(x.selected(c, m));
            }
        }
        for (int m = 0; m < x.count(5); m++) {
            for (int k = 0; k < 7; k++) {
                add(x.method(m, k));
            }
        }
        for (int i = 0; i < x.count(6); i++) {
            for (int k = 0; k < 4; k++) {
                add(x.instruction(i, k));
            }
            for (int place = 0; place < BOUND; place++) {
                for (int c = -5; c < x.count(3); c++) {
                    add(x.kind(i, place, c));
                }
            }
        }
    }

    /** What is asked by a number k: with - 1 how many there are. */
    private interface Row {
        int at(int k);
    }

    private static void addRow(Row row) {
        int n = row.at(-1);
        for (int k = -1; k <= n; k++) {
            add(row.at(k));
        }
    }

    private static void addAnalysis(ThreadJudge x) {
        for (int k = 8; k < 17; k++) {
            add(x.count(k));
        }
        for (int o = 0; o < x.count(9); o++) {
            int object = o;
            for (int k = 0; k < 6; k++) {
                add(x.object(o, k));
            }
            for (int f = -7; f < x.count(4); f++) {
                int field = f;
                addRow(k -> x.field(object, field, k));
            }
        }
        for (int i = 0; i < x.count(6); i++) {
            addInstruction(x, i);
        }
        for (int m = 0; m < x.count(5); m++) {
            int method = m;
            add(x.reached(m, 0));
            add(x.reached(m, 1));
            addRow(k -> x.way(method, k));
        }
        for (int c = 0; c < x.count(3); c++) {
            add(x.begins(c));
        }
        for (int k = 0; k < 3; k++) {
            for (int t = 0; t <= x.count(10); t++) {
                add(x.thread(t, k));
            }
            for (int n = 0; n <= x.count(12); n++) {
                add(x.race(n, k));
            }
            for (int n = 0; n <= x.count(13); n++) {
                add(x.knot(n, k));
            }
        }
        for (int n = 0; n <= x.count(14); n++) {
            add(x.waits(n, 0));
            add(x.waits(n, 1));
        }
        for (int n = 0; n <= x.count(15); n++) {
            add(x.unresolved(n));
        }
    }

    private static void addInstruction(ThreadJudge x, int i) {
        addRow(k -> x.calls(i, false, k));
        addRow(k -> x.calls(i, true, k));
        for (int p = 0; p < BOUND; p++) {
            int place = p;
            addRow(k -> x.holds(i, place, k));
        }
        addRow(k -> x.held(i, true, k));
        addRow(k -> x.held(i, false, k));
        for (int j = 0; j < x.count(6); j++) {
            add(x.parallel(i, j));
        }
    }

    private static void addQuestions(ThreadJudge x) {
        String[] questions = {"into(main) | native", "callers(starting) & reached - racing", "all - (native | locking)", "callees(M.main) | from(M)", "M.run - T.<init> | Thread"};
        for (String question : questions) {
            int n = Judged.ask(x, question);
            add(n);
            for (int k = 0; k < n; k++) {
                add(x.answered(k));
            }
        }
    }

    private static void addRun(ThreadJudge x, int draw) {
        add(x.begin() ? 1 : 0);
        addState(x);
        int did = 1;
        for (int turn = 1; turn < 14 && did > 0; turn++) {
            did = x.run(turn < 6 ? 7 : turn < 10 ? 30 : 150, draw + turn);
            add(did);
            addState(x);
        }
    }

    private static void addState(ThreadJudge x) {
        for (int k = 17; k < 25; k++) {
            add(x.count(k));
        }
        for (int t = 0; t < x.count(19); t++) {
            for (int k = 0; k < 5; k++) {
                add(x.state(t, k));
            }
            for (int place = 0; place < BOUND; place++) {
                add(x.local(t, place));
            }
        }
        for (int n = 0; n <= x.count(18); n++) {
            for (int k = 0; k < 5; k++) {
                add(x.thing(n, k));
            }
            for (int f = -17; f < x.count(4); f++) {
                add(x.value(n, f));
            }
        }
        for (int k = 0; k <= x.count(20); k++) {
            add(x.said(k));
        }
        for (int k = 0; k <= Math.min(1000, x.count(21)); k++) {
            add(x.clash(k, 0));
            add(x.clash(k, 1));
        }
        add(x.foreseen() ? 1 : 0);
    }
}
