import java.io.IOException;
import java.nio.file.Files;
import java.nio.file.Path;
import java.util.ArrayList;
import java.util.BitSet;
import java.util.List;
import java.util.Random;
import java.util.Set;
import java.util.function.IntUnaryOperator;

/** Each answer of the class held against PlainProgram, PlainJudge, PlainRun, by made and changed texts. */
public final class PlainTest {
    private static final int MOST = 11900;
    private static final String[] WORDS = ("all main reached native racing locking starting callers callees into from ( ) ( ) | - & . Main Thread Object run"
        + " <init> A0 C1 M T0 Nope int uncaught").split(" ");
    private static final String[] BRACKETS = {"callers(", "callees(", "into (", "from(", "("};
    private static final String[] CLASSES = {"Main", "Thread", "Object", "M", "A0", "Main.main", "Thread . <init>", "M.s_"};
    private static final String[] SETS = {"all", "main", "reached", "native", "racing", "locking", "starting"};

    private final String text;
    private final Random r;
    private final ThreadJudge x;
    private final PlainProgram p;
    private PlainJudge j;

    private PlainTest(String text, Random r) {
        this.text = text;
        this.r = r;
        x = Judged.of(text);
        p = new PlainProgram(text);
    }

    public static void main(String[] args) throws IOException {
        int from = args.length > 0 ? Integer.parseInt(args[0]) : 0;
        int to = args.length > 1 ? Integer.parseInt(args[1]) : 150;
        List<String> agreed = new ArrayList<>();
        for (String line : Files.readAllLines(Path.of("src/test/data/agreed.txt"))) {
            agreed.add(line.substring(line.indexOf("| ") + 2));
        }
        int loaded = 0;
        for (int seed = from; seed < to; seed++) {
            Random r = new Random(seed * 131L + 7);
            int make = r.nextInt(6);
            String text = make == 0 ? agreed.get(r.nextInt(agreed.size())) : make < 4 ? new Maker(seed).text() : new TypedMaker(seed).text();
            text = r.nextInt(3) == 0 ? Changer.change(text, r) : text;
            text = text.length() > MOST ? text.substring(0, MOST) : text;
            loaded += new PlainTest(text, r).hold() ? 1 : 0;
        }
        Judged.yes("enough programs load", loaded * 3 > to - from);
        for (int seed = from * 40; seed < to * 40; seed++) {
            new PlainTest(new SoupMaker(seed).text(), new Random(seed)).holdProgram();
        }
        Judged.end();
    }

    private void due(String what, long got, long want) {
        if (got != want) {
            System.out.println("of " + text);
        }
        Judged.due(what, got, want);
    }

    private void dueRow(String what, IntUnaryOperator ask, List<Integer> all) {
        due(what + ", how many", ask.applyAsInt(-1), all.size());
        for (int k = 0; k < all.size(); k++) {
            due(what + " " + k, ask.applyAsInt(k), all.get(k));
        }
        due(what + ", behind", ask.applyAsInt(all.size()), -1);
        due(what + ", ahead", ask.applyAsInt(-2), -1);
    }

    private static int bit(boolean is) {
        return is ? 1 : 0;
    }

    /** True if the text loads. */
    private boolean holdProgram() {
        due("load()", x.load(), p.fault);
        due("the fault", x.count(0), p.fault);
        due("its place", x.count(1), p.place);
        if (p.fault == 0) {
            holdCounts();
            holdClasses();
            holdCode();
        }
        return p.fault == 0;
    }

    private boolean hold() {
        if (!holdProgram()) {
            return false;
        }
        for (int policy = 0; policy < 4; policy++) {
            int granted = r.nextInt(3) == 0 ? 1 + r.nextInt(60) : 300;
            j = new PlainJudge(p, policy, granted);
            due("analyse(" + policy + ", " + granted + ")", x.analyse(policy, granted), j.insts.size());
            holdJudged();
            holdObjects();
            holdMethods();
            holdInstructions();
            holdRaces();
            holdQuestions();
            holdRun();
        }
        return true;
    }

    // ---- the program

    private void holdCounts() {
        due("classes", x.count(3), p.classes.size());
        due("fields", x.count(4), p.fields.size());
        due("methods", x.count(5), p.methods.size());
        due("instructions", x.count(6), p.code.size());
        due("strings", x.count(7), p.strings.size());
    }

    private void holdClasses() {
        for (PlainProgram.Cls c : p.classes) {
            int[] all = {p.up(c) == null ? -1 : p.up(c).num, bit(c.iface), bit(c.abs), bit(c.excluded), c.firstMethod, c.methods.size(), c.name.length()};
            for (int what = 0; what < all.length; what++) {
                due("classOf " + what + " of " + c.name, x.classOf(c.num, what), all[what]);
            }
            for (PlainProgram.Cls d : p.classes) {
                due(c.name + " below " + d.name, x.below(c.num, d.num), bit(p.below(c.name, d.name)));
            }
            for (PlainProgram.Meth m : p.methods) {
                PlainProgram.Meth s = p.select(c.name, m.name, m.params);
                due("selected from " + c.name + " " + m.name, x.selected(c.num, m.num), s == null ? -1 : s.num);
            }
        }
        for (PlainProgram.Meth m : p.methods) {
            int flags = bit(m.isStatic()) + 2 * bit(m.is("abstract")) + 4 * bit(m.is("synchronized")) + 8 * bit(m.nativ);
            int[] all = {m.cls.num, m.params.size(), flags, m.lines ? m.first : -1, m.code.size(), m.place, m.catches.size()};
            for (int what = 0; what < all.length; what++) {
                due("method " + what + " of " + m.name, x.method(m.num, what), all[what]);
            }
        }
    }

    private void holdCode() {
        for (PlainProgram.Ins i : p.code) {
            int[] all = {i.op, i.m.num, p.names(i), i.height};
            for (int what = 0; what < all.length; what++) {
                due("instruction " + i.num + ", " + what, x.instruction(i.num, what), all[what]);
            }
            for (int q = 0; q < 19 && r.nextInt(3) == 0; q++) {
                for (int c = -6; c <= p.classes.size(); c++) {
                    due("kind " + i.num + " " + q + " " + c, x.kind(i.num, q, c), kind(i, q, c));
                }
            }
        }
    }

    private int kind(PlainProgram.Ins i, int q, int c) {
        if (i.height < 0 || q >= 10 + i.height || c < -5 || c == -1 || c >= p.classes.size()) {
            return -1;
        }
        Set<String> s = i.kinds.get(q);
        boolean array = false;
        for (String k : s) {
            array |= PlainProgram.isArray(k);
        }
        return bit(c >= 0 ? s.contains(p.classes.get(c).name) : c == -2 ? s.contains("int") : c == -3 ? s.contains("NULL")
            : c == -4 ? s.contains("NOTHING") : array);
    }

    // ---- what may be

    private void holdJudged() {
        int total = 0;
        for (PlainJudge.Inst k : j.insts) {
            total += k.nodes.size();
        }
        List<Integer> open = new ArrayList<>();
        for (PlainProgram.Ins i : p.code) {
            if (j.isUnresolved(i)) {
                open.add(i.num);
            }
        }
        int[] all = {j.insts.size(), j.objs.size(), j.threads.size(), total, j.races.size(), j.knots.size(), j.waits.size(), open.size(), bit(j.degraded)};
        for (int what = 0; what < all.length; what++) {
            due("count(" + (what + 8) + ")", x.count(what + 8), all[what]);
        }
        for (int k = 0; k <= open.size(); k++) {
            due("unresolved " + k, x.unresolved(k), k < open.size() ? open.get(k) : -1);
        }
        for (PlainProgram.Cls c : p.classes) {
            due("begins " + c.name, x.begins(c.num), bit(j.begun.contains(c)));
        }
        for (int t = 0; t < j.threads.size(); t++) {
            int[] told = {t == 0 ? -1 : j.threads.get(t).number, bit(j.isSingle(t)), j.runs.get(t).size()};
            for (int what = 0; what < told.length; what++) {
                due("thread " + t + ", " + what, x.thread(t, what), told[what]);
            }
        }
    }

    private void holdObjects() {
        for (PlainJudge.Obj o : j.order) {
            int[] all = {o.site, o.ctx, p.typeNumber(o.type), bit(j.singular.get(o.id)), bit(j.escaping.get(o.id)), o.started ? j.threads.indexOf(o) : -1};
            for (int what = 0; what < all.length; what++) {
                due("object " + o.number + ", " + what, x.object(o.number, what), all[what]);
            }
            due("no such field", x.field(o.number, -8, -1), -1);
            due("no such field", x.field(o.number, p.fields.size(), -1), -1);
            for (int f = -7; f < p.fields.size(); f++) {
                int g = f;
                dueRow("field " + f + " of object " + o.number, k -> x.field(o.number, g, k), j.numbers(held(o, f)));
            }
        }
        due("no such object", x.object(j.objs.size(), 0), -1);
    }

    private BitSet held(PlainJudge.Obj o, int f) {
        BitSet none = new BitSet();
        if (f >= 0 && p.fields.get(f).flags.contains("static")) {
            return j.statics.getOrDefault(f, none);
        }
        if (f >= 0) {
            return o.fields.getOrDefault(f, none);
        }
        return f == -1 ? o.elements : -2 - f < o.has.length ? o.has[-2 - f] : none;
    }

    private void holdMethods() {
        for (PlainProgram.Meth m : p.methods) {
            int n = 0;
            for (PlainJudge.Inst k : j.insts) {
                n += k.m == m ? 1 : 0;
            }
            due("instances of " + m.name, x.reached(m.num, 0), n);
            due("once " + m.name, x.reached(m.num, 1), bit(j.once.contains(m)));
            List<Integer> way = j.way(m);
            if (way == null) {
                due("no way to " + m.name, x.way(m.num, -1), -1);
                due("no way to " + m.name, x.way(m.num, 0), -1);
            } else {
                dueRow("way to " + m.name, k -> x.way(m.num, k), way);
            }
        }
    }

    private void holdInstructions() {
        for (PlainProgram.Ins i : p.code) {
            dueRow("calls of " + i.num, k -> x.calls(i.num, false, k), new ArrayList<>(j.calledBy(i)));
            dueRow("starts of " + i.num, k -> x.calls(i.num, true, k), new ArrayList<>(j.startedBy(i)));
            if (i.height < 0) {
                due("not come to", x.held(i.num, true, -1), -1);
                due("not come to", x.holds(i.num, 0, -1), -1);
                continue;
            }
            List<PlainJudge.Node> nodes = j.nodesOf(i);
            for (int q = 0; q < 10 + i.height; q++) {
                BitSet s = new BitSet();
                for (PlainJudge.Node n : nodes) {
                    s.or(n.in[q]);
                }
                int g = q;
                dueRow("holds " + i.num + " " + q, k -> x.holds(i.num, g, k), j.numbers(s));
            }
            due("no such place", x.holds(i.num, 10 + i.height, -1), -1);
            holdHeld(i, nodes);
        }
        for (int k = 0; k < 400; k++) {
            PlainProgram.Ins a = p.code.get(r.nextInt(p.code.size()));
            PlainProgram.Ins b = p.code.get(r.nextInt(p.code.size()));
            boolean none = a.height < 0 || b.height < 0;
            due("parallel " + a.num + " " + b.num, x.parallel(a.num, b.num), none ? -1 : bit(j.parallel(a, b)));
        }
    }

    private void holdHeld(PlainProgram.Ins i, List<PlainJudge.Node> nodes) {
        BitSet sure = nodes.isEmpty() ? new BitSet() : j.surely(nodes.get(0));
        BitSet may = new BitSet();
        for (PlainJudge.Node n : nodes) {
            sure.and(j.surely(n));
            may.or(j.maybe(n));
        }
        dueRow("surely held at " + i.num, k -> x.held(i.num, true, k), j.numbers(sure));
        dueRow("may be held at " + i.num, k -> x.held(i.num, false, k), j.numbers(may));
    }

    private void holdRaces() {
        int k = 0;
        for (long race : j.races.keySet()) {
            due("race " + k, x.race(k, 0) * 10000L + x.race(k, 1), race);
            due("field of race " + k, x.race(k, 2), j.races.get(race));
            k++;
        }
        due("no such race", x.race(k, 0), -1);
        k = 0;
        for (long knot : j.knots) {
            if (k < 300) {
                due("knot " + k, x.knot(k, 0) * 1000000L + x.knot(k, 1) * 1000L + x.knot(k, 2), knot);
            }
            k++;
        }
        due("no such knot", x.knot(k, 0), -1);
        k = 0;
        for (int i : j.waits.keySet()) {
            due("wait " + k, x.waits(k, 0), i);
            due("what wait " + k + " is", x.waits(k, 1), j.waits.get(i));
            k++;
        }
        due("no such wait", x.waits(k, 0), -1);
    }

    // ---- questions

    private void holdQuestions() {
        List<Integer> last = null;
        for (int n = 0; n < 12; n++) {
            StringBuilder q = new StringBuilder();
            for (int w = r.nextInt(14); w >= 0; w--) {
                q.append(q.length() > 0 && r.nextInt(3) > 0 ? " " : "").append(word(q.toString().trim()));
            }
            q.setLength(Math.min(200, q.length()));
            int want = j.answer(q.toString());
            due("answer to " + q, Judged.ask(x, q.toString()), want);
            last = want < 0 ? last : new ArrayList<>(j.answer);
            for (int k = 0; last != null && k <= last.size(); k++) {
                due("answered " + k, x.answered(k), k < last.size() ? last.get(k) : -1);
            }
        }
    }

    /** Mostly a word that can come behind a question's beginning. */
    private String word(String s) {
        if (r.nextInt(12) == 0) {
            return WORDS[r.nextInt(WORDS.length)];
        }
        if (s.isEmpty() || "|-&(".indexOf(s.charAt(s.length() - 1)) >= 0) {
            String[] all = r.nextInt(5) < 2 ? BRACKETS : r.nextInt(2) == 0 ? CLASSES : SETS;
            return all[r.nextInt(all.length)];
        }
        int open = s.replaceAll("[^(]", "").length() - s.replaceAll("[^)]", "").length();
        return open > 0 && r.nextInt(2) == 0 ? ")" : "|-&".substring(r.nextInt(3)).substring(0, 1);
    }

    // ---- the machine

    private void holdRun() {
        due("begin()", bit(x.begin()), 1);
        PlainRun run = new PlainRun(p, j);
        holdStates(run);
        for (int k = r.nextInt(12); k >= 0; k--) {
            if (r.nextInt(3) == 0) {
                int t = r.nextInt(run.threads.size() + 1) - r.nextInt(2);
                for (int s = r.nextInt(12); s >= 0; s--) {
                    due("step " + t, x.step(t), run.step(t));
                }
            } else {
                int steps = 1 + r.nextInt(r.nextInt(4) == 0 ? 700 : 40);
                int draw = r.nextInt();
                due("run(" + steps + ", " + draw + ")", x.run(steps, draw), run.run(steps, draw));
            }
            holdStates(run);
        }
    }

    private void holdStates(PlainRun run) {
        int[] all = {run.steps, run.things.size(), run.threads.size(), run.said.size(), run.clashes.size(), run.rings,
            run.done.size() + run.beginning.size(), bit(run.over)};
        for (int what = 0; what < all.length; what++) {
            due("count(" + (what + 17) + ")", x.count(what + 17), all[what]);
        }
        for (PlainRun.Thr t : run.threads) {
            holdThread(run, t);
        }
        due("no such thread", x.state(run.threads.size(), 0), -1);
        for (PlainRun.Thing n : run.things) {
            holdThing(n);
        }
        due("no such thing", x.thing(run.things.size(), 0), -1);
        for (PlainProgram.Fld f : p.fields) {
            if (f.flags.contains("static")) {
                due("static field " + f.name, x.value(-5, f.num), number(run.statics.getOrDefault(f.num, PlainRun.initial(f.type))));
            }
        }
        for (int k = 0; k <= run.said.size(); k++) {
            due("said " + k, x.said(k), k < run.said.size() ? run.said.get(k) : -1);
        }
        for (int k = 0; k <= Math.min(1000, run.clashes.size()); k++) {
            boolean is = k < run.clashes.size() && k < 1000;
            due("clash " + k, x.clash(k, 0), is ? run.clashes.get(k)[0] : -1);
            due("clash " + k, x.clash(k, 1), is ? run.clashes.get(k)[1] : -1);
        }
        due("foreseen()", bit(x.foreseen()), bit(run.foreseen()));
    }

    private static int number(Object v) {
        return v == PlainRun.UNSET ? 0 : v == null ? -1 : v instanceof PlainRun.Thing ? ((PlainRun.Thing) v).num : (Integer) v;
    }

    private void holdThread(PlainRun run, PlainRun.Thr t) {
        int mode = run.mode(t);
        PlainRun.Frame f = t.frames.isEmpty() ? null : t.top();
        int[] all = {mode, t.frames.size(), f == null ? -1 : f.m.first + f.idx, f == null ? -1 : f.m.num,
            mode == 1 ? run.waitsFor(t).num : mode == 2 ? t.sleepsAt.num : -1};
        for (int what = 0; what < all.length; what++) {
            due("state " + what + " of " + t.num, x.state(t.num, what), all[what]);
        }
        for (int q = -1; q < 20; q++) {
            boolean is = f != null && q >= 0 && q < 10 + f.stack.size();
            due("local " + q + " of " + t.num, x.local(t.num, q), is ? number(q < 10 ? f.locals[q] : f.stack.get(q - 10)) : -1);
        }
    }

    private void holdThing(PlainRun.Thing n) {
        int[] all = {p.typeNumber(n.type), n.site, n.elements.length, n.entered, n.owner == null ? -1 : n.owner.num};
        for (int what = 0; what < all.length; what++) {
            due("thing " + n.num + ", " + what, x.thing(n.num, what), all[what]);
        }
        for (PlainProgram.Fld f : p.fields) {
            if (!f.flags.contains("static")) {
                boolean has = !PlainProgram.isArray(n.type) && p.below(n.type, f.cls.name);
                Object v = n.fields.getOrDefault(f.num, PlainRun.initial(f.type));
                due("field " + f.name + " of thing " + n.num, x.value(n.num, f.num), has ? number(v) : -1);
            }
        }
        for (int k = 0; k <= n.elements.length; k++) {
            due("element " + k + " of thing " + n.num, x.value(n.num, -1 - k), k < n.elements.length ? number(n.elements[k]) : -1);
        }
    }
}
