import java.util.ArrayList;
import java.util.BitSet;
import java.util.List;
import java.util.Random;
import java.util.TreeSet;

/** CLOCKS: made programs by made schedules; what happens before what is told by a graph of all that was done, and each clash by that. */
public final class OrderTest {
    private static final int WORKERS = 4;
    private static final String[] LOCKS = {"a", "b"};
    private static final String CLASSES = "class C0 { static field int n; static method void s() { return; } } class C1 { static field int n; static method void <clinit>() { push 1; putstatic Main.n0; getstatic Main.n1; pop; return; } static method void s() { return; } } class C2 extends C1 { static field int n; static method void s() { return; } } ";
    private static final int[][] CHAINS = {{0}, {1}, {2, 1}};

    /** A line or two of a thread: what it does to which, and how many instructions it has. */
    private record Action(char kind, int of, String lines, int size) {
    }

    private final long seed;
    private final Random random;
    private final List<List<Action>> plans = new ArrayList<>();
    private final int[] first = new int[WORKERS + 1];
    private int clinit;
    private ThreadJudge x;

    // the state of a run
    private final int[] numbers = new int[WORKERS + 1];
    private final int[] done = new int[WORKERS + 1];
    private final int[] code = new int[WORKERS + 1];
    private final int[] owner = new int[LOCKS.length];
    private final int[] depth = new int[LOCKS.length];
    private final boolean[] hooked = new boolean[WORKERS + 1];
    private int threads;
    // the graph
    private final List<BitSet> before = new ArrayList<>();
    private final int[] last = new int[WORKERS + 1];
    private final List<List<Integer>> exits = new ArrayList<>();
    private final List<List<Integer>> writes = new ArrayList<>();
    private final int[] classEnds = new int[3];
    private final int[][][] seen = new int[5][WORKERS + 1][2];
    private final int[][][] seenCode = new int[5][WORKERS + 1][2];
    private final TreeSet<Integer> pairs = new TreeSet<>();

    private OrderTest(long seed) {
        this.seed = seed;
        random = new Random(seed);
    }

    public static void main(String[] args) {
        int clashes = 0;
        for (int seed = 0; seed < 800; seed++) {
            clashes += new OrderTest(seed).judge();
        }
        Judged.yes("clashes: " + clashes, clashes > 2000);
        Judged.end();
    }

    // ---- programs

    private int pick(int n) {
        return random.nextInt(n);
    }

    private static Action action(char kind, int of, String lines) {
        return new Action(kind, of, lines, lines.length() - lines.replace(";", "").length());
    }

    private void makePlan(int w) {
        List<Action> plan = new ArrayList<>();
        int[] held = new int[2];
        int depth = 0;
        int n = 3 + pick(7);
        for (int k = 0; k < n; k++) {
            int of = pick(2);
            switch (pick(9)) {
                case 0: plan.add(action('r', of, "getstatic Main.n" + of + "; pop;")); break;
                case 1: plan.add(action('w', of, "push 1; putstatic Main.n" + of + ";")); break;
                case 2: plan.add(action('V', of, "push 1; putstatic Main.v" + of + ";")); break;
                case 3: plan.add(action('v', of, "getstatic Main.v" + of + "; pop;")); break;
                case 4: plan.add(action('k', pick(3), "call void C@.s();")); break;
                case 5: plan.add(action('g', pick(3), "getstatic C@.n; pop;")); break;
                case 6: plan.add(action('p', pick(3), "push 1; putstatic C@.n;")); break;
                default:
                    if (depth > 0 && (depth == 2 || pick(2) == 0)) {
                        plan.add(action('x', held[--depth], "string \"" + LOCKS[held[depth]] + "\"; exit;"));
                    } else {
                        held[depth++] = of;
                        plan.add(action('e', of, "string \"" + LOCKS[of] + "\"; enter;"));
                    }
                    break;
            }
        }
        for (; depth > 0; depth--) {
            plan.add(action('x', held[depth - 1], "string \"" + LOCKS[held[depth - 1]] + "\"; exit;"));
        }
        plans.add(plan);
        if (w > 0 && pick(3) == 0) {
            int other = pick(WORKERS + 1);
            if (other != w && other > 0) {
                plan.add(pick(plan.size() + 1), action('j', other, "getstatic Main.t" + other + "; virtual void Thread.join();"));
            }
        }
    }

    private String makeText() {
        for (int w = 0; w <= WORKERS; w++) {
            makePlan(w);
        }
        StringBuilder all = new StringBuilder(CLASSES);
        StringBuilder made = new StringBuilder();
        StringBuilder fields = new StringBuilder("static field int n0; static field int n1; static volatile field int v0; static volatile field int v1; ");
        for (int w = 1; w <= WORKERS; w++) {
            // the last one is hooked, or started like the others by one before
            int by = pick(w);
            boolean hook = w == WORKERS && pick(2) == 0;
            List<Action> plan = plans.get(by);
            plan.add(pick(plan.size() + 1), action(hook ? 'h' : 's', w, "getstatic Main.t" + w + "; " + (hook ? "call void Runtime.hook(Thread);" : "virtual void Thread.start();")));
            fields.append("static final field W").append(w).append(" t").append(w).append("; ");
            made.append("new W").append(w).append("; putstatic Main.t").append(w).append("; ");
        }
        for (int k = 1; k <= WORKERS; k++) {
            if (pick(2) == 0) {
                plans.get(0).add(action('j', k, "getstatic Main.t" + k + "; virtual void Thread.join();"));
            }
        }
        for (int w = 1; w <= WORKERS; w++) {
            all.append("class W").append(w).append(" extends Thread { method void run() { ").append(lines(w)).append("return; } } ");
        }
        return all + "class Main { " + fields + "static method void <clinit>() { " + made + "return; } static method void main() { " + lines(0) + "return; } }";
    }

    private String lines(int w) {
        StringBuilder all = new StringBuilder();
        for (Action a : plans.get(w)) {
            all.append(a.lines.replace("@", String.valueOf(a.of))).append(' ');
        }
        return all.toString();
    }

    // ---- the graph

    /** Something that a thread does, behind what it did before and behind others. */
    private int event(int w) {
        BitSet all = new BitSet();
        before.add(all);
        int e = before.size() - 1;
        if (last[w] >= 0) {
            behind(e, last[w]);
        }
        last[w] = e;
        return e;
    }

    private void behind(int e, int other) {
        before.get(e).or(before.get(other));
        before.get(e).set(other);
    }

    private void access(int w, int place, int i, boolean writes) {
        int e = event(w);
        for (int u = 0; u <= WORKERS; u++) {
            for (int how = 0; u != w && how < 2; how++) {
                int was = seen[place][u][how];
                if (was >= 0 && (writes || how == 1) && !before.get(e).get(was)) {
                    int j = seenCode[place][u][how];
                    pairs.add(Math.min(i, j) * 2000 + Math.max(i, j));
                }
            }
        }
        seen[place][w][writes ? 1 : 0] = e;
        seenCode[place][w][writes ? 1 : 0] = i;
    }

    // ---- a run

    private void open() {
        before.clear();
        pairs.clear();
        exits.clear();
        writes.clear();
        threads = 1;
        for (int w = 0; w <= WORKERS; w++) {
            numbers[w] = w == 0 ? 0 : -1;
            done[w] = 0;
            code[w] = first[w];
            last[w] = -1;
            hooked[w] = false;
        }
        for (int l = 0; l < LOCKS.length; l++) {
            owner[l] = -1;
            depth[l] = 0;
            exits.add(new ArrayList<>());
            writes.add(new ArrayList<>());
        }
        for (int c = 0; c < 3; c++) {
            classEnds[c] = -1;
        }
        for (int[][] place : seen) {
            for (int[] of : place) {
                of[0] = -1;
                of[1] = -1;
            }
        }
        x.begin();
        steps(0, WORKERS * 2 + 1);
        event(0);
    }

    private void steps(int w, int n) {
        for (int k = 0; k < n; k++) {
            if (x.step(numbers[w]) != 1) {
                Judged.due("step of thread " + numbers[w] + " of " + seed, 0, 1);
            }
        }
    }

    private boolean isEnded(int w) {
        return numbers[w] >= 0 && done[w] > plans.get(w).size();
    }

    private boolean canGoOn(int w) {
        if (numbers[w] < 0 || isEnded(w)) {
            return false;
        }
        if (done[w] == plans.get(w).size()) {
            return true;
        }
        Action a = plans.get(w).get(done[w]);
        if (a.kind == 'e') {
            return owner[a.of] < 0 || owner[a.of] == w;
        }
        return a.kind != 'j' || numbers[a.of] < 0 || isEnded(a.of);
    }

    /** A thread does its next action, or comes to its end. */
    private void go(int w) {
        if (done[w] == plans.get(w).size()) {
            steps(w, 1);
            done[w]++;
            event(w);
            beginHooked();
            return;
        }
        Action a = plans.get(w).get(done[w]++);
        int i = code[w];
        code[w] += a.size;
        switch (a.kind) {
            case 'k':
            case 'g':
            case 'p': useClass(w, a, i); return;
            case 'e': enter(w, a.of); break;
            case 'x': exit(w, a.of); break;
            case 'r': access(w, a.of, i, false); break;
            case 'w': access(w, a.of, i + 1, true); break;
            case 'V': writes.get(a.of).add(event(w)); break;
            case 'v':
                int e = event(w);
                for (int other : writes.get(a.of)) {
                    behind(e, other);
                }
                break;
            case 's':
                numbers[a.of] = threads++;
                last[a.of] = event(w);
                break;
            case 'h': hooked[a.of] = true; break;
            default:
                int f = event(w);
                if (numbers[a.of] >= 0) {
                    behind(f, last[a.of]);
                }
                break;
        }
        steps(w, a.size);
    }

    private void enter(int w, int l) {
        int e = event(w);
        for (int other : exits.get(l)) {
            behind(e, other);
        }
        owner[l] = w;
        depth[l]++;
    }

    private void exit(int w, int l) {
        exits.get(l).add(event(w));
        depth[l]--;
        owner[l] = depth[l] == 0 ? -1 : w;
    }

    private void useClass(int w, Action a, int i) {
        boolean begins = a.of > 0 && classEnds[1] < 0;
        int e = event(w);
        for (int c : CHAINS[a.of]) {
            if (classEnds[c] >= 0) {
                behind(e, classEnds[c]);
            }
        }
        for (int c : CHAINS[a.of]) {
            if (classEnds[c] < 0 && c != 1) {
                classEnds[c] = event(w);
            }
        }
        if (begins) {
            access(w, 0, clinit + 1, true);
            access(w, 1, clinit + 2, false);
            classEnds[1] = event(w);
        }
        if (a.kind != 'k') {
            access(w, 2 + a.of, a.kind == 'p' ? i + 1 : i, a.kind == 'p');
        }
        steps(w, (a.kind == 'k' ? 2 : a.size) + (begins ? 6 : 0));
    }

    private void beginHooked() {
        for (int w = 0; w <= WORKERS; w++) {
            if (numbers[w] >= 0 && !isEnded(w)) {
                return;
            }
        }
        for (int w = 0; w <= WORKERS; w++) {
            if (hooked[w] && numbers[w] < 0) {
                numbers[w] = threads++;
                last[w] = -1;
                int e = event(w);
                for (int u = 0; u <= WORKERS; u++) {
                    if (u != w && numbers[u] >= 0) {
                        behind(e, last[u]);
                    }
                }
            }
        }
    }

    private int judge() {
        String text = makeText();
        x = Judged.loaded(text);
        int methods = x.count(5);
        first[0] = x.method(methods - 1, 3);
        for (int w = 1; w <= WORKERS; w++) {
            first[w] = x.method(methods - 3 - WORKERS + w, 3);
        }
        clinit = x.method(18, 3);
        int all = 0;
        for (int part = 0; part < 2; part++) {
            open();
            for (int turn = 0; turn < 300; turn++) {
                List<Integer> able = new ArrayList<>();
                for (int w = 0; w <= WORKERS; w++) {
                    if (canGoOn(w)) {
                        able.add(w);
                    }
                }
                if (able.isEmpty()) {
                    break;
                }
                int w = able.get(pick(able.size()));
                for (int more = pick(4); more >= 0 && canGoOn(w); more--) {
                    go(w);
                }
            }
            all += pairs.size();
            TreeSet<Integer> got = new TreeSet<>();
            for (int k = 0; k < x.count(21); k++) {
                got.add(x.clash(k, 0) * 2000 + x.clash(k, 1));
            }
            Judged.due("clashes of " + seed, x.count(21), pairs.size());
            Judged.yes("clashes of " + seed + ": " + got + ", due are " + pairs, got.equals(pairs));
            Judged.due("threads", x.count(19), threads);
        }
        return all;
    }
}
