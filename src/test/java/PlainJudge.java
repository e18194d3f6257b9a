import java.util.ArrayList;
import java.util.Arrays;
import java.util.BitSet;
import java.util.HashMap;
import java.util.HashSet;
import java.util.LinkedHashSet;
import java.util.List;
import java.util.Map;
import java.util.Set;
import java.util.TreeMap;
import java.util.TreeSet;

/** The document once more, for tests alone: what may be, threads, monitors, races, knots, questions. */
final class PlainJudge {
    static final class Obj {
        int id;
        int site;
        int ctx;
        String type;
        PlainProgram.Ins lambda;
        final Map<Integer, BitSet> fields = new HashMap<>();
        final BitSet elements = new BitSet();
        BitSet[] has = new BitSet[0];
        boolean started;
        final Set<Inst> runs = new LinkedHashSet<>();
        int number;
    }

    static final class Node {
        final Inst inst;
        final PlainProgram.Ins i;
        final BitSet[] in;
        final Set<Inst> calls = new LinkedHashSet<>();
        final Set<Inst> starts = new LinkedHashSet<>();
        final Set<PlainProgram.Cls> begins = new LinkedHashSet<>();
        final BitSet startsObjs = new BitSet();
        final BitSet waitsOn = new BitSet();
        boolean waits;
        boolean joins;
        boolean open;

        Node(Inst inst, PlainProgram.Ins i) {
            this.inst = inst;
            this.i = i;
            in = new BitSet[10 + Math.max(0, i.height)];
            for (int k = 0; k < in.length; k++) {
                in[k] = new BitSet();
            }
        }

        BitSet taken(int k, int takes) {
            return in[10 + i.height - takes + k];
        }
    }

    static final class Inst {
        PlainProgram.Meth m;
        int ctx;
        final List<Node> nodes = new ArrayList<>();
        final BitSet gives = new BitSet();
        final BitSet letsGo = new BitSet();
        boolean clinit;
    }

    private static final class TooMuch extends RuntimeException {
        private static final long serialVersionUID = 1L;

        TooMuch() {
            super(null, null, false, false);
        }
    }

    final PlainProgram p;
    int policy;
    boolean degraded;
    private int granted;
    private boolean bounded;
    final List<Inst> insts = new ArrayList<>();
    final Map<Long, Inst> instAt = new HashMap<>();
    final List<Obj> objs = new ArrayList<>();
    final Map<Long, Obj> objAt = new HashMap<>();
    final Map<Integer, BitSet> statics = new HashMap<>();
    final Set<PlainProgram.Cls> begun = new HashSet<>();
    private boolean more;
    private int total;
    Inst mainInst;
    List<Obj> order;

    PlainJudge(PlainProgram p, int told, int granted) {
        this.p = p;
        this.granted = granted;
        policy = told;
        bounded = told != 0;
        try {
            solve();
        } catch (TooMuch e) {
            degraded = true;
            policy = 0;
            bounded = false;
            solve();
        }
        degraded |= insts.size() > granted;
        order = new ArrayList<>(objs);
        order.sort((a, b) -> a.site != b.site ? Integer.compare(a.site, b.site) : Integer.compare(a.ctx, b.ctx));
        for (int k = 0; k < order.size(); k++) {
            order.get(k).number = k;
        }
        threads();
        monitors();
    }

    // ---- WHAT MAY BE

    private void solve() {
        insts.clear();
        instAt.clear();
        objs.clear();
        objAt.clear();
        statics.clear();
        begun.clear();
        total = 0;
        mainInst = inst(p.main, -1);
        begin(null, p.main.cls, new BitSet());
        do {
            more = false;
            for (int k = 0; k < insts.size(); k++) {
                Inst inst = insts.get(k);
                if (inst.m.isStatic() && inst.m.is("synchronized")) {
                    obj(3000 + inst.m.cls.num, -1, "Class");
                }
                for (Node n : inst.nodes) {
                    if (n.i.height >= 0) {
                        look(n);
                    }
                }
            }
        } while (more);
    }

    private void grow(BitSet to, BitSet by) {
        int was = to.cardinality();
        to.or(by);
        more |= to.cardinality() != was;
    }

    private void grow(BitSet to, int o) {
        more |= !to.get(o);
        to.set(o);
    }

    private static long key(int a, int b) {
        return a * 100000L + b;
    }

    Inst inst(PlainProgram.Meth m, int ctx) {
        Inst k = instAt.get(key(m.num, ctx));
        if (k != null) {
            return k;
        }
        k = new Inst();
        k.m = m;
        k.ctx = ctx;
        k.clinit = m.name.equals("<clinit>");
        for (PlainProgram.Ins i : m.code) {
            k.nodes.add(new Node(k, i));
        }
        total += m.code.size();
        insts.add(k);
        instAt.put(key(m.num, ctx), k);
        more = true;
        if (bounded && (insts.size() > granted || total > 4000)) {
            throw new TooMuch();
        }
        return k;
    }

    Obj obj(int site, int ctx, String type) {
        Obj o = objAt.get(key(site, ctx));
        if (o == null) {
            o = new Obj();
            o.id = objs.size();
            o.site = site;
            o.ctx = ctx;
            o.type = type;
            objs.add(o);
            objAt.put(key(site, ctx), o);
            more = true;
            if (bounded && objs.size() > 480) {
                throw new TooMuch();
            }
        }
        return o;
    }

    private Set<PlainProgram.Cls> chain(PlainProgram.Cls c) {
        Set<PlainProgram.Cls> all = new LinkedHashSet<>();
        for (PlainProgram.Cls d = c; d != null; d = p.up(d)) {
            all.add(d);
        }
        return all;
    }

    private PlainProgram.Meth clinit(PlainProgram.Cls c) {
        for (PlainProgram.Meth m : c.methods) {
            if (m.name.equals("<clinit>")) {
                return m;
            }
        }
        return null;
    }

    /** A class begins, by a node or by none. */
    private void begin(Node n, PlainProgram.Cls c, BitSet thrown) {
        for (PlainProgram.Cls d : chain(c)) {
            more |= begun.add(d);
            if (n != null) {
                n.begins.add(d);
            }
            PlainProgram.Meth m = clinit(d);
            if (m != null && d.excluded) {
                if (n != null) {
                    n.open = true;
                }
            } else if (m != null) {
                thrown.or(inst(m, -1).letsGo);
            }
        }
    }

    /** The context of what an instruction calls; the receiver's object or null. */
    int context(PlainProgram.Ins i, int site, String type, int callers) {
        switch (policy) {
            case 0: return -1;
            case 1: return i.num;
            default:
                if (site < 0) {
                    return callers;
                }
                if (policy == 2) {
                    return site;
                }
                return site < 2000 ? p.code.get(site).m.cls.num : p.cls(type).num;
        }
    }

    int contextOfMade(int ctx) {
        return policy >= 2 ? ctx : -1;
    }

    private void peril(BitSet thrown, String... names) {
        for (String name : names) {
            thrown.set(obj(5000 + p.cls(name).num, -1, name).id);
        }
    }

    private void look(Node n) {
        PlainProgram.Ins i = n.i;
        int takes = p.takes(i);
        BitSet thrown = new BitSet();
        BitSet made = new BitSet();
        BitSet[] t = new BitSet[takes];
        for (int k = 0; k < takes; k++) {
            t[k] = n.taken(k, takes);
        }
        int mine = contextOfMade(n.inst.ctx);
        switch (i.op) {
            case 1: made.set(obj(2000 + i.string, -1, "String").id); break;
            case 9: case 10: peril(thrown, "Arithmetic"); break;
            case 38: case 39: {
                peril(thrown, "NullPointer");
                for (int o = t[0].nextSetBit(0); o >= 0; o = t[0].nextSetBit(o + 1)) {
                    if (p.below(objs.get(o).type, i.owner)) {
                        BitSet f = objs.get(o).fields.computeIfAbsent(i.fld.num, x -> new BitSet());
                        if (i.op == 38) {
                            made.or(f);
                        } else {
                            grow(f, t[1]);
                        }
                    }
                }
                break;
            }
            case 40:
                begin(n, i.fld.cls, thrown);
                made.or(statics.computeIfAbsent(i.fld.num, x -> new BitSet()));
                break;
            case 41:
                begin(n, i.fld.cls, thrown);
                grow(statics.computeIfAbsent(i.fld.num, x -> new BitSet()), t[0]);
                break;
            case 42:
                begin(n, i.cls, thrown);
                made.set(obj(i.num, mine, i.owner).id);
                break;
            case 43:
                peril(thrown, "Size");
                made.set(obj(i.num, mine, i.type + "[]").id);
                break;
            case 44: case 45: {
                peril(thrown, "NullPointer", "Index");
                if (i.op == 45) {
                    peril(thrown, "Store");
                }
                for (int o = t[0].nextSetBit(0); o >= 0; o = t[0].nextSetBit(o + 1)) {
                    Obj a = objs.get(o);
                    if (!PlainProgram.isArray(a.type)) {
                        continue;
                    }
                    if (i.op == 44) {
                        made.or(a.elements);
                    } else if (!a.type.equals("int[]")) {
                        for (int v = t[2].nextSetBit(0); v >= 0; v = t[2].nextSetBit(v + 1)) {
                            if (p.below(objs.get(v).type, PlainProgram.base(a.type))) {
                                grow(a.elements, v);
                            }
                        }
                    }
                }
                break;
            }
            case 46: case 53: peril(thrown, "NullPointer"); break;
            case 47:
                peril(thrown, "Cast");
                for (int o = t[0].nextSetBit(0); o >= 0; o = t[0].nextSetBit(o + 1)) {
                    if (p.below(objs.get(o).type, i.type)) {
                        made.set(o);
                    }
                }
                break;
            case 49: case 50: invoke(n, t, thrown, made); break;
            case 51:
                begin(n, i.meth.cls, thrown);
                if (i.meth.nativ) {
                    fixedNative(n, t, thrown, made);
                } else {
                    call(n, i.meth, null, null, Arrays.asList(t), thrown, made);
                }
                break;
            case 52: {
                Obj l = obj(i.num, mine, i.face);
                l.lambda = i;
                if (l.has.length < takes) {
                    l.has = new BitSet[takes];
                    for (int k = 0; k < takes; k++) {
                        l.has[k] = new BitSet();
                    }
                }
                for (int k = 0; k < takes; k++) {
                    grow(l.has[k], t[k]);
                }
                made.set(l.id);
                break;
            }
            case 54: peril(thrown, "NullPointer", "Monitor"); break;
            case 55:
                peril(thrown, "NullPointer");
                thrown.or(t[0]);
                break;
            case 57: grow(n.inst.gives, t[0]); break;
            default: break;
        }
        goOn(n, t, made);
        toss(n, thrown);
    }

    private void goOn(Node n, BitSet[] t, BitSet made) {
        PlainProgram.Ins i = n.i;
        List<BitSet> s = new ArrayList<>(Arrays.asList(n.in).subList(0, 10 + i.height - t.length));
        switch (i.op) {
            case 3: s.add(n.in[i.n]); break;
            case 4: s.set(i.n, t[0]); break;
            case 18: s.add(t[0]); s.add(t[0]); break;
            case 19: s.add(t[1]); s.add(t[0]); s.add(t[1]); break;
            case 20: s.add(t[1]); s.add(t[0]); break;
            default:
                if (p.leaves(i) == 1) {
                    s.add(made);
                }
                break;
        }
        for (int to : PlainProgram.goesOn(i)) {
            for (int k = 0; k < s.size(); k++) {
                grow(n.inst.nodes.get(to).in[k], s.get(k));
            }
        }
        for (PlainProgram.Catch c : i.m.catches) {
            if (PlainProgram.within(c, i.idx)) {
                for (int k = 0; k < 10; k++) {
                    grow(n.inst.nodes.get(c.h).in[k], n.in[k]);
                }
            }
        }
    }

    private void toss(Node n, BitSet thrown) {
        for (int o = thrown.nextSetBit(0); o >= 0; o = thrown.nextSetBit(o + 1)) {
            BitSet to = n.inst.letsGo;
            for (PlainProgram.Catch c : n.i.m.catches) {
                if (PlainProgram.within(c, n.i.idx) && p.below(objs.get(o).type, c.cls)) {
                    to = n.inst.nodes.get(c.h).in[10];
                    break;
                }
            }
            grow(to, o);
        }
    }

    /** The call of a method with lines. */
    private void call(Node n, PlainProgram.Meth m, Obj receiver, Obj lambda, List<BitSet> values, BitSet thrown, BitSet made) {
        if (m.cls.excluded) {
            n.open = true;
            return;
        }
        int ctx = context(n.i, receiver == null ? -1 : receiver.site, receiver == null ? null : receiver.type, n.inst.ctx);
        Inst k = inst(m, ctx);
        more |= n.calls.add(k);
        List<BitSet> first = new ArrayList<>();
        if (receiver != null) {
            BitSet alone = new BitSet();
            alone.set(receiver.id);
            first.add(alone);
        }
        if (lambda != null) {
            first.addAll(Arrays.asList(lambda.has));
        }
        first.addAll(values);
        for (int q = 0; q < first.size(); q++) {
            grow(k.nodes.get(0).in[q], first.get(q));
        }
        made.or(k.gives);
        thrown.or(k.letsGo);
    }

    private boolean madeFor(Obj o, String name, List<String> params) {
        return o.lambda != null && o.lambda.made.name.equals(name) && o.lambda.made.params.equals(params);
    }

    private void invoke(Node n, BitSet[] t, BitSet thrown, BitSet made) {
        PlainProgram.Ins i = n.i;
        peril(thrown, "NullPointer");
        List<BitSet> values = Arrays.asList(t).subList(1, t.length);
        for (int id = t[0].nextSetBit(0); id >= 0; id = t[0].nextSetBit(id + 1)) {
            Obj o = objs.get(id);
            if (!p.below(o.type, i.owner)) {
                continue;
            }
            if (i.op == 49 && madeFor(o, i.name, i.params)) {
                call(n, o.lambda.meth, null, o, values, thrown, made);
                continue;
            }
            PlainProgram.Meth m = i.op == 50 ? i.meth : p.select(o.type, i.name, i.params);
            if (m == null) {
                peril(thrown, "NoMethod");
            } else if (m.nativ) {
                nativeOf(n, m.name, o, values, thrown, made);
            } else {
                call(n, m, o, null, values, thrown, made);
            }
        }
    }

    private static final List<String> NONE = new ArrayList<>();

    private void nativeOf(Node n, String name, Obj o, List<BitSet> values, BitSet thrown, BitSet made) {
        switch (name) {
            case "wait":
                n.waits = true;
                n.waitsOn.set(o.id);
                peril(thrown, "Monitor");
                break;
            case "notify": case "notifyAll":
                peril(thrown, "Monitor");
                break;
            case "newInstance": {
                peril(thrown, "NoClass");
                PlainProgram.Cls c = o.site >= 3000 && o.site < 4000 ? p.classes.get(o.site - 3000) : null;
                if (c != null && !c.iface && !c.abs) {
                    begin(n, c, thrown);
                    Obj x = obj(6000 + c.num, contextOfMade(n.inst.ctx), c.name);
                    made.set(x.id);
                    call(n, p.find(c, "<init>", NONE), x, null, new ArrayList<>(), thrown, new BitSet());
                }
                break;
            }
            case "find":
                peril(thrown, "NoMethod", "NullPointer");
                if (o.site >= 3000 && o.site < 4000) {
                    for (int v = values.get(0).nextSetBit(0); v >= 0; v = values.get(0).nextSetBit(v + 1)) {
                        int site = objs.get(v).site;
                        PlainProgram.Meth m = site >= 2000 && site < 3000
                            ? found(p.classes.get(o.site - 3000), p.strings.get(site - 2000)) : null;
                        if (m != null) {
                            made.set(obj(4000 + m.num, -1, "Method").id);
                        }
                    }
                }
                break;
            case "invoke":
                peril(thrown, "Cast", "NullPointer");
                if (o.site >= 4000 && o.site < 5000) {
                    invokeMethod(n, p.methods.get(o.site - 4000), values.get(0), thrown, made);
                }
                break;
            case "start":
                peril(thrown, "State");
                start(n, o);
                break;
            case "join":
                n.joins = true;
                break;
            default:
                throw new IllegalStateException(name);
        }
    }

    /** What find() finds. */
    PlainProgram.Meth found(PlainProgram.Cls c, String name) {
        for (PlainProgram.Cls d : chain(c)) {
            for (PlainProgram.Meth m : d.methods) {
                if (m.lines && m.name.equals(name) && m.params.isEmpty() && !name.startsWith("<")) {
                    return m;
                }
            }
        }
        return null;
    }

    private void invokeMethod(Node n, PlainProgram.Meth m, BitSet value, BitSet thrown, BitSet made) {
        if (m.isStatic()) {
            begin(n, m.cls, thrown);
            call(n, m, null, null, new ArrayList<>(), thrown, made);
            return;
        }
        for (int v = value.nextSetBit(0); v >= 0; v = value.nextSetBit(v + 1)) {
            Obj o = objs.get(v);
            if (!p.below(o.type, m.cls.name)) {
                continue;
            }
            if (madeFor(o, m.name, NONE)) {
                call(n, o.lambda.meth, null, o, new ArrayList<>(), thrown, made);
                continue;
            }
            PlainProgram.Meth s = p.select(o.type, m.name, NONE);
            if (s == null || s.nativ) {
                peril(thrown, "NoMethod");
            } else {
                call(n, s, o, null, new ArrayList<>(), thrown, made);
            }
        }
    }

    private void fixedNative(Node n, BitSet[] t, BitSet thrown, BitSet made) {
        String name = n.i.meth.name;
        if (name.equals("print")) {
            return;
        }
        peril(thrown, "NullPointer");
        if (name.equals("named")) {
            peril(thrown, "NoClass");
        }
        for (int v = t[0].nextSetBit(0); v >= 0; v = t[0].nextSetBit(v + 1)) {
            Obj o = objs.get(v);
            if (name.equals("hook")) {
                start(n, o);
            } else if (o.site >= 2000 && o.site < 3000) {
                PlainProgram.Cls c = p.cls(p.strings.get(o.site - 2000));
                if (c != null) {
                    begin(n, c, thrown);
                    made.set(obj(3000 + c.num, -1, "Class").id);
                }
            }
        }
    }

    private void start(Node n, Obj o) {
        o.started = true;
        n.startsObjs.set(o.id);
        Inst run = startOne(n, o, p.select(o.type, "run", NONE));
        Inst last = startOne(n, o, p.select(o.type, "uncaught", Arrays.asList("Throwable")));
        if (run != null && last != null) {
            grow(last.nodes.get(0).in[1], run.letsGo);
        }
    }

    private Inst startOne(Node n, Obj o, PlainProgram.Meth m) {
        if (m == null) {
            return null;
        }
        if (m.cls.excluded) {
            n.open = true;
            return null;
        }
        Inst k = inst(m, context(n.i, o.site, o.type, -1));
        n.starts.add(k);
        o.runs.add(k);
        grow(k.nodes.get(0).in[0], o.id);
        return k;
    }

    // ---- what is told of it

    boolean isUnresolved(PlainProgram.Ins i) {
        for (Node n : nodesOf(i)) {
            if (n.open) {
                return true;
            }
        }
        return false;
    }

    List<Node> nodesOf(PlainProgram.Ins i) {
        List<Node> all = new ArrayList<>();
        for (Inst k : insts) {
            if (k.m == i.m) {
                all.add(k.nodes.get(i.idx));
            }
        }
        return all;
    }

    List<Integer> numbers(BitSet set) {
        TreeSet<Integer> all = new TreeSet<>();
        for (int o = set.nextSetBit(0); o >= 0; o = set.nextSetBit(o + 1)) {
            if (o < objs.size()) {
                all.add(objs.get(o).number);
            }
        }
        return new ArrayList<>(all);
    }

    TreeSet<Integer> calledBy(PlainProgram.Ins i) {
        TreeSet<Integer> all = new TreeSet<>();
        for (Node n : nodesOf(i)) {
            for (Inst k : n.calls) {
                all.add(k.m.num);
            }
            for (PlainProgram.Cls c : n.begins) {
                PlainProgram.Meth m = clinit(c);
                if (m != null && !c.excluded) {
                    all.add(m.num);
                }
            }
        }
        return all;
    }

    TreeSet<Integer> startedBy(PlainProgram.Ins i) {
        TreeSet<Integer> all = new TreeSet<>();
        for (Node n : nodesOf(i)) {
            for (Inst k : n.starts) {
                all.add(k.m.num);
            }
        }
        return all;
    }

    // ---- THREADS

    final List<Set<Integer>> callsOf = new ArrayList<>();
    final Set<PlainProgram.Meth> once = new HashSet<>();
    final BitSet singular = new BitSet();
    final BitSet escaping = new BitSet();
    final List<Obj> threads = new ArrayList<>();
    final List<Set<Inst>> runs = new ArrayList<>();
    private final Map<Inst, Set<Inst>> reach = new HashMap<>();
    /** Instructions of MAIN's instance by index; -1 the BEGINNING. */
    private final Map<Inst, Set<Integer>> tops = new HashMap<>();
    private final List<Set<Integer>> before = new ArrayList<>();
    private final List<Set<Integer>> behind = new ArrayList<>();

    boolean isOnce(PlainProgram.Ins i) {
        return once.contains(i.m) && !p.way(i, i);
    }

    private Set<Inst> nextOf(Node n) {
        Set<Inst> all = new LinkedHashSet<>(n.calls);
        all.addAll(clinits(n.begins));
        return all;
    }

    private Set<Inst> clinits(Set<PlainProgram.Cls> classes) {
        Set<Inst> all = new LinkedHashSet<>();
        for (PlainProgram.Cls c : classes) {
            PlainProgram.Meth m = clinit(c);
            if (m != null && !c.excluded) {
                all.add(instAt.get(key(m.num, -1)));
            }
        }
        return all;
    }

    /** These and all to which they lead. */
    private Set<Inst> spread(Set<Inst> from) {
        Set<Inst> all = new LinkedHashSet<>();
        List<Inst> open = new ArrayList<>(from);
        while (!open.isEmpty()) {
            Inst k = open.remove(open.size() - 1);
            if (all.add(k)) {
                for (Node n : k.nodes) {
                    open.addAll(nextOf(n));
                }
            }
        }
        return all;
    }

    private void threads() {
        for (PlainProgram.Ins i : p.code) {
            Set<Integer> all = calledBy(i);
            all.addAll(startedBy(i));
            callsOf.add(all);
        }
        boolean grew = true;
        while (grew) {
            grew = false;
            for (PlainProgram.Meth m : p.methods) {
                List<PlainProgram.Ins> by = new ArrayList<>();
                for (PlainProgram.Ins i : p.code) {
                    if (callsOf.get(i.num).contains(m.num)) {
                        by.add(i);
                    }
                }
                boolean is;
                if (m == p.main) {
                    is = by.isEmpty();
                } else {
                    is = m.name.equals("<clinit>") || by.size() == 1 && isOnce(by.get(0));
                }
                grew |= is && once.add(m);
            }
        }
        for (Obj o : objs) {
            if (o.site >= 2000 && o.site < 5000 || o.site < 2000 && isOnce(p.code.get(o.site))) {
                singular.set(o.id);
            }
        }
        escape();
        threads.add(null);
        for (Obj o : order) {
            if (o.started) {
                threads.add(o);
            }
        }
        Set<Inst> first = clinits(chain(p.main.cls));
        for (Obj o : threads) {
            Set<Inst> from = new LinkedHashSet<>();
            if (o == null) {
                from.add(mainInst);
                from.addAll(first);
            } else {
                from.addAll(o.runs);
            }
            runs.add(spread(from));
        }
        for (Inst k : insts) {
            tops.put(k, new TreeSet<>());
        }
        for (Node n : mainInst.nodes) {
            for (Inst k : spread(nextOf(n))) {
                tops.get(k).add(n.i.idx);
            }
        }
        for (Inst k : spread(first)) {
            tops.get(k).add(-1);
        }
        for (int t = 0; t < threads.size(); t++) {
            before.add(t == 0 ? new TreeSet<>() : before(threads.get(t)));
            behind.add(t == 0 ? new TreeSet<>() : behind(threads.get(t)));
        }
    }

    private void escape() {
        for (BitSet s : statics.values()) {
            escaping.or(s);
        }
        for (Obj o : objs) {
            if (o.started) {
                escaping.set(o.id);
            }
        }
        int was = -1;
        while (was != escaping.cardinality()) {
            was = escaping.cardinality();
            for (Obj o : objs) {
                if (escaping.get(o.id)) {
                    for (BitSet s : o.fields.values()) {
                        escaping.or(s);
                    }
                    escaping.or(o.elements);
                    for (BitSet s : o.has) {
                        escaping.or(s);
                    }
                }
            }
        }
    }

    boolean isSingle(int t) {
        return t == 0 || singular.get(threads.get(t).id);
    }

    private List<Node> starters(Obj o) {
        List<Node> all = new ArrayList<>();
        for (Inst k : insts) {
            for (Node n : k.nodes) {
                if (n.startsObjs.get(o.id)) {
                    all.add(n);
                }
            }
        }
        return all;
    }

    private Set<Integer> before(Obj o) {
        Set<Integer> all = new TreeSet<>();
        if (!once.contains(p.main)) {
            return all;
        }
        List<Node> by = starters(o);
        for (Node n : by) {
            if (n.inst != mainInst) {
                return all;
            }
        }
        all.add(-1);
        for (PlainProgram.Ins t : p.main.code) {
            boolean led = false;
            for (Node n : by) {
                led |= p.way(n.i, t);
            }
            if (!led) {
                all.add(t.idx);
            }
        }
        return all;
    }

    /** Whether every way from MAIN's first instruction to t goes through a gate. */
    private boolean through(int gate, int t) {
        boolean[] seen = new boolean[p.main.code.size()];
        List<Integer> open = new ArrayList<>();
        open.add(0);
        while (!open.isEmpty()) {
            int k = open.remove(open.size() - 1);
            if (k != gate && !seen[k]) {
                seen[k] = true;
                open.addAll(p.next(p.main.code.get(k)));
            }
        }
        return !seen[t];
    }

    private Set<Integer> behind(Obj o) {
        Set<Integer> all = new TreeSet<>();
        List<Node> by = starters(o);
        if (!once.contains(p.main) || !singular.get(o.id) || by.size() != 1 || by.get(0).inst != mainInst || !isOnce(by.get(0).i)) {
            return all;
        }
        int q = by.get(0).i.idx;
        for (Node j : mainInst.nodes) {
            boolean caught = false;
            for (PlainProgram.Catch c : p.main.catches) {
                caught |= PlainProgram.within(c, j.i.idx);
            }
            if (!j.joins || caught) {
                continue;
            }
            BitSet r = j.taken(0, 1);
            if (r.cardinality() != 1 || !r.get(o.id) || !through(q, j.i.idx)) {
                continue;
            }
            for (PlainProgram.Ins t : p.main.code) {
                if (t.idx != j.i.idx && t.height >= 0 && through(j.i.idx, t.idx)) {
                    all.add(t.idx);
                }
            }
        }
        return all;
    }

    private boolean aside(Node n, int t) {
        Set<Integer> all = new TreeSet<>(tops.get(n.inst));
        if (n.inst == mainInst) {
            all.add(n.i.idx);
        }
        return before.get(t).containsAll(all) || behind.get(t).containsAll(all);
    }

    private final Map<Node, BitSet> meetsMain = new HashMap<>();

    private BitSet notAside(Node n) {
        return meetsMain.computeIfAbsent(n, x -> {
            BitSet all = new BitSet();
            for (int t = 1; t < threads.size(); t++) {
                all.set(t, !aside(n, t));
            }
            return all;
        });
    }

    boolean parallel(Node a, Node b) {
        for (int s = 0; s < threads.size(); s++) {
            for (int t = 0; t < threads.size(); t++) {
                if (!runs.get(s).contains(a.inst) || !runs.get(t).contains(b.inst)) {
                    continue;
                }
                if (s == t && isSingle(s)) {
                    continue;
                }
                if (s == 0 && !notAside(a).get(t) || t == 0 && !notAside(b).get(s)) {
                    continue;
                }
                return true;
            }
        }
        return false;
    }

    boolean parallel(PlainProgram.Ins i, PlainProgram.Ins j) {
        for (Node a : nodesOf(i)) {
            for (Node b : nodesOf(j)) {
                if (parallel(a, b)) {
                    return true;
                }
            }
        }
        return false;
    }

    // ---- MONITORS

    final Map<Inst, BitSet> surelyEntry = new HashMap<>();
    final Map<Inst, BitSet> mayEntry = new HashMap<>();

    private BitSet lock(Inst k) {
        BitSet all = new BitSet();
        if (k.m.is("synchronized")) {
            if (k.m.isStatic()) {
                all.set(objAt.get(key(3000 + k.m.cls.num, -1)).id);
            } else {
                all.or(k.nodes.get(0).in[0]);
            }
        }
        return all;
    }

    private BitSet alone(BitSet s) {
        BitSet all = new BitSet();
        if (s.cardinality() == 1 && singular.intersects(s)) {
            all.or(s);
        }
        return all;
    }

    private BitSet rowTakes(Node n, int r) {
        return n.inst.nodes.get(n.i.row.get(r)).taken(0, 1);
    }

    private BitSet ownSure(Node n) {
        BitSet all = new BitSet();
        for (int r = 0; r < n.i.row.size(); r++) {
            all.or(alone(rowTakes(n, r)));
        }
        all.or(alone(lock(n.inst)));
        return all;
    }

    BitSet surely(Node n) {
        BitSet all = ownSure(n);
        all.or(surelyEntry.get(n.inst));
        return all;
    }

    BitSet maybe(Node n) {
        BitSet all = new BitSet();
        for (int r = 0; r < n.i.row.size(); r++) {
            all.or(rowTakes(n, r));
        }
        all.or(lock(n.inst));
        all.or(mayEntry.get(n.inst));
        return all;
    }

    private List<Node> live() {
        List<Node> all = new ArrayList<>();
        for (Inst k : insts) {
            for (Node n : k.nodes) {
                if (n.i.height >= 0) {
                    all.add(n);
                }
            }
        }
        return all;
    }

    final TreeMap<Long, Integer> races = new TreeMap<>();
    final TreeSet<Long> knots = new TreeSet<>();
    final TreeMap<Integer, Integer> waits = new TreeMap<>();

    private void monitors() {
        List<Node> live = live();
        Set<Inst> rooted = new HashSet<>();
        rooted.add(mainInst);
        for (Inst k : insts) {
            if (k.clinit) {
                rooted.add(k);
            }
        }
        for (Node n : live) {
            rooted.addAll(n.starts);
        }
        for (Inst k : insts) {
            BitSet all = new BitSet();
            if (!rooted.contains(k)) {
                all.set(0, objs.size());
            }
            surelyEntry.put(k, all);
            mayEntry.put(k, new BitSet());
        }
        boolean moved = true;
        while (moved) {
            moved = false;
            for (Node n : live) {
                BitSet sure = surely(n);
                for (Inst k : n.calls) {
                    int was = surelyEntry.get(k).cardinality();
                    surelyEntry.get(k).and(sure);
                    moved |= was != surelyEntry.get(k).cardinality();
                }
                BitSet may = maybe(n);
                for (Inst k : nextOf(n)) {
                    int was = mayEntry.get(k).cardinality();
                    mayEntry.get(k).or(may);
                    moved |= was != mayEntry.get(k).cardinality();
                }
            }
        }
        races(live);
        knots(live);
        for (Node n : live) {
            if (n.waits) {
                BitSet r = n.taken(0, 1);
                BitSet one = alone(r);
                one.and(surely(n));
                int is = (one.isEmpty() ? 1 : 0) | (p.way(n.i, n.i) ? 0 : 2);
                if (is != 0) {
                    waits.merge(n.i.num, is, (a, b) -> a | b);
                }
            }
        }
    }

    /** The field, -1 elements, -2 no access. */
    private int access(Node n) {
        switch (n.i.op) {
            case 38: case 39: case 40: case 41:
                return n.i.fld.flags.contains("final") || n.i.fld.flags.contains("volatile") ? -2 : n.i.fld.num;
            case 44: case 45: return -1;
            default: return -2;
        }
    }

    private void races(List<Node> live) {
        List<Node> all = new ArrayList<>();
        Map<Node, BitSet> sure = new HashMap<>();
        for (Node n : live) {
            if (access(n) > -2) {
                all.add(n);
                sure.put(n, surely(n));
            }
        }
        for (Node a : all) {
            for (Node b : all) {
                boolean writes = a.i.op == 39 || a.i.op == 41 || a.i.op == 45 || b.i.op == 39 || b.i.op == 41 || b.i.op == 45;
                if (access(a) != access(b) || !writes || a.i.num > b.i.num || sure.get(a).intersects(sure.get(b))) {
                    continue;
                }
                if (a.i.op != 40 && a.i.op != 41) {
                    BitSet both = (BitSet) a.taken(0, p.takes(a.i)).clone();
                    both.and(b.taken(0, p.takes(b.i)));
                    both.and(escaping);
                    if (both.isEmpty()) {
                        continue;
                    }
                }
                if (parallel(a, b)) {
                    races.put(a.i.num * 10000L + b.i.num, access(a));
                }
            }
        }
    }

    private BitSet wanted(Node n) {
        BitSet all = new BitSet();
        if (n.i.op == 53) {
            all.or(n.taken(0, 1));
        }
        for (Inst k : n.calls) {
            all.or(lock(k));
        }
        all.or(n.waitsOn);
        return all;
    }

    private void knots(List<Node> live) {
        if (threads.size() < 2) {
            return;
        }
        Map<Integer, BitSet> whiles = new HashMap<>();
        Set<Long> pairs = new HashSet<>();
        List<int[]> told = new ArrayList<>();
        for (Node n : live) {
            BitSet w = wanted(n);
            if (w.isEmpty()) {
                continue;
            }
            BitSet may = maybe(n);
            for (int o = may.nextSetBit(0); o >= 0; o = may.nextSetBit(o + 1)) {
                for (int q = w.nextSetBit(0); q >= 0; q = w.nextSetBit(q + 1)) {
                    if (o == q && singular.get(o)) {
                        continue;
                    }
                    whiles.computeIfAbsent(o, x -> new BitSet()).set(q);
                    told.add(new int[] {n.i.num, o, q});
                }
            }
        }
        Map<Integer, BitSet> leads = new HashMap<>();
        for (int o : whiles.keySet()) {
            BitSet seen = new BitSet();
            List<Integer> open = new ArrayList<>();
            open.add(o);
            while (!open.isEmpty()) {
                BitSet next = whiles.getOrDefault(open.remove(open.size() - 1), new BitSet());
                for (int q = next.nextSetBit(0); q >= 0; q = next.nextSetBit(q + 1)) {
                    if (!seen.get(q)) {
                        seen.set(q);
                        open.add(q);
                    }
                }
            }
            leads.put(o, seen);
        }
        for (int[] k : told) {
            if (k[1] == k[2] || leads.getOrDefault(k[2], new BitSet()).get(k[1])) {
                knots.add(k[0] * 1000000L + objs.get(k[1]).number * 1000L + objs.get(k[2]).number);
            }
        }
    }

    boolean isKnotOf(Obj o, Obj q) {
        for (long k : knots) {
            if (k / 1000 % 1000 == o.number && k % 1000 == q.number) {
                return true;
            }
        }
        return false;
    }

    // ---- ways

    Set<Integer> leadsOf(PlainProgram.Meth m) {
        Set<Integer> all = new TreeSet<>();
        for (PlainProgram.Ins i : m.code) {
            all.addAll(callsOf.get(i.num));
        }
        return all;
    }

    /** The shortest, then least row; null if there is none. */
    List<Integer> way(PlainProgram.Meth m) {
        Set<Integer> at = new TreeSet<>();
        at.add(p.main.num);
        List<Set<Integer>> levels = new ArrayList<>();
        Set<Integer> seen = new HashSet<>(at);
        levels.add(at);
        while (!levels.get(levels.size() - 1).contains(m.num)) {
            Set<Integer> next = new TreeSet<>();
            for (int k : levels.get(levels.size() - 1)) {
                for (int to : leadsOf(p.methods.get(k))) {
                    if (seen.add(to)) {
                        next.add(to);
                    }
                }
            }
            if (next.isEmpty()) {
                return null;
            }
            levels.add(next);
        }
        return least(p.main.num, m.num, levels.size() - 1);
    }

    private final Map<Long, List<Integer>> leastKnown = new HashMap<>();

    /** The least row of just so many instructions from a method to another. */
    private List<Integer> least(int from, int to, int length) {
        if (length == 0) {
            return from == to ? new ArrayList<>() : null;
        }
        long key = (from * 1000L + to) * 1000L + length;
        if (leastKnown.containsKey(key)) {
            return leastKnown.get(key);
        }
        List<Integer> best = null;
        for (PlainProgram.Ins i : p.methods.get(from).code) {
            for (int k : callsOf.get(i.num)) {
                List<Integer> rest = least(k, to, length - 1);
                if (rest != null) {
                    List<Integer> row = new ArrayList<>();
                    row.add(i.num);
                    row.addAll(rest);
                    if (best == null || less(row, best)) {
                        best = row;
                    }
                }
            }
        }
        leastKnown.put(key, best);
        return best;
    }

    private static boolean less(List<Integer> a, List<Integer> b) {
        for (int k = 0; k < a.size(); k++) {
            if (!a.get(k).equals(b.get(k))) {
                return a.get(k) < b.get(k);
            }
        }
        return false;
    }

    // ---- questions

    private String q;
    private int qa;
    private int qe;
    private int depth;

    private static final class Cant extends RuntimeException {
        private static final long serialVersionUID = 1L;

        Cant() {
            super(null, null, false, false);
        }
    }

    TreeSet<Integer> answer;

    /** How many, or -1 less the place; the answer is kept. */
    int answer(String question) {
        q = question;
        qe = 0;
        depth = 0;
        try {
            token();
            TreeSet<Integer> s = sum();
            if (qa < q.length()) {
                throw new Cant();
            }
            answer = s;
            return s.size();
        } catch (Cant e) {
            return -1 - qa;
        }
    }

    private void token() {
        qa = qe;
        while (qa < q.length() && q.charAt(qa) == ' ') {
            qa++;
        }
        qe = Math.min(q.length(), qa + 1);
        if (qa < q.length() && (Character.isLetter(q.charAt(qa)) || q.charAt(qa) == '_' || q.charAt(qa) == '<')) {
            while (qe < q.length() && (Character.isLetterOrDigit(q.charAt(qe)) || q.charAt(qe) == '_' || q.charAt(qe) == '>')) {
                qe++;
            }
        }
    }

    private String tok() {
        return q.substring(qa, qe);
    }

    private boolean isWord() {
        return qa < q.length() && (Character.isLetter(q.charAt(qa)) || q.charAt(qa) == '_' || q.charAt(qa) == '<');
    }

    private TreeSet<Integer> sum() {
        TreeSet<Integer> s = part();
        while (tok().equals("|") || tok().equals("-")) {
            boolean plus = tok().equals("|");
            token();
            TreeSet<Integer> t = part();
            if (plus) {
                s.addAll(t);
            } else {
                s.removeAll(t);
            }
        }
        return s;
    }

    private TreeSet<Integer> part() {
        TreeSet<Integer> s = term();
        while (tok().equals("&")) {
            token();
            s.retainAll(term());
        }
        return s;
    }

    private TreeSet<Integer> bracket() {
        if (!tok().equals("(") || depth == 20) {
            throw new Cant();
        }
        depth++;
        token();
        TreeSet<Integer> s = sum();
        if (!tok().equals(")")) {
            throw new Cant();
        }
        depth--;
        token();
        return s;
    }

    private TreeSet<Integer> term() {
        if (tok().equals("(")) {
            return bracket();
        }
        if (!isWord()) {
            throw new Cant();
        }
        String w = tok();
        TreeSet<Integer> s = new TreeSet<>();
        switch (w) {
            case "callers": case "callees": case "into": case "from": {
                token();
                TreeSet<Integer> of = bracket();
                boolean again = w.equals("into") || w.equals("from");
                boolean back = w.equals("callers") || w.equals("into");
                s = step(of, back);
                if (again) {
                    s.addAll(of);
                    int was = -1;
                    while (was != s.size()) {
                        was = s.size();
                        s.addAll(step(s, back));
                    }
                }
                return s;
            }
            case "all": case "main": case "reached": case "native": case "racing": case "locking": case "starting":
                for (PlainProgram.Meth m : p.methods) {
                    if (holds(w, m)) {
                        s.add(m.num);
                    }
                }
                token();
                return s;
            default:
                PlainProgram.Cls c = PlainProgram.RESERVED.contains(w) ? null : p.cls(w);
                if (c == null) {
                    throw new Cant();
                }
                token();
                String name = null;
                if (tok().equals(".")) {
                    token();
                    if (!isWord()) {
                        throw new Cant();
                    }
                    name = tok();
                    token();
                }
                for (PlainProgram.Meth m : c.methods) {
                    if (name == null || m.name.equals(name)) {
                        s.add(m.num);
                    }
                }
                return s;
        }
    }

    private TreeSet<Integer> step(Set<Integer> of, boolean back) {
        TreeSet<Integer> s = new TreeSet<>();
        for (PlainProgram.Meth m : p.methods) {
            Set<Integer> to = leadsOf(m);
            if (back) {
                for (int k : to) {
                    if (of.contains(k)) {
                        s.add(m.num);
                    }
                }
            } else if (of.contains(m.num)) {
                s.addAll(to);
            }
        }
        return s;
    }

    private boolean holds(String w, PlainProgram.Meth m) {
        switch (w) {
            case "all": return true;
            case "main": return m == p.main;
            case "reached":
                for (Inst k : insts) {
                    if (k.m == m) {
                        return true;
                    }
                }
                return false;
            case "native": return m.nativ;
            case "racing":
                for (long r : races.keySet()) {
                    if (p.code.get((int) (r / 10000)).m == m || p.code.get((int) (r % 10000)).m == m) {
                        return true;
                    }
                }
                return false;
            case "locking":
                boolean locks = m.is("synchronized");
                for (PlainProgram.Ins i : m.code) {
                    locks |= i.op == 53;
                }
                return locks;
            default:
                for (PlainProgram.Ins i : m.code) {
                    if (!startedBy(i).isEmpty()) {
                        return true;
                    }
                }
                return false;
        }
    }
}
