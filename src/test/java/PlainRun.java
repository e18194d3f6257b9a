import java.util.ArrayList;
import java.util.Arrays;
import java.util.BitSet;
import java.util.HashMap;
import java.util.HashSet;
import java.util.LinkedHashMap;
import java.util.LinkedHashSet;
import java.util.List;
import java.util.Map;
import java.util.Set;
import java.util.TreeSet;

/** The document once more, for tests alone: the machine. */
final class PlainRun {
    static final Object UNSET = "unset";

    static final class Thing {
        int num;
        String type;
        int site;
        int ctx = -1;
        PlainProgram.Ins lambda;
        final Map<Integer, Object> fields = new HashMap<>();
        Object[] elements = new Object[0];
        List<Object> has = new ArrayList<>();
        int entered;
        Thr owner;
        Thr thread;
        BitSet left = new BitSet();
    }

    static final class Group {
        boolean first;
    }

    static final class Frame {
        PlainProgram.Meth m;
        int idx;
        int ctx;
        final Object[] locals = new Object[10];
        final List<Object> stack = new ArrayList<>();
        final List<Thing> entered = new ArrayList<>();
        Thing lock;
        boolean needsLock;
        PlainProgram.Cls clinitOf;
        Group group;
        String nativ;
        Thing made;

        PlainProgram.Ins ins() {
            return m.code.get(idx);
        }

        Object pop() {
            return stack.remove(stack.size() - 1);
        }
    }

    static final class Thr {
        int num;
        final List<Frame> frames = new ArrayList<>();
        Thing thing;
        boolean run;
        boolean ended;
        Thing sleepsAt;
        Thing wants;
        int count;
        long since;
        BitSet past = new BitSet();
        PlainProgram.Ins by;
        PlainJudge.Node byNode;

        Frame top() {
            return frames.get(frames.size() - 1);
        }
    }

    private static final class Full extends RuntimeException {
        private static final long serialVersionUID = 1L;

        Full() {
            super(null, null, false, false);
        }
    }

    /** What the machine, or an instruction, throws. */
    private static final class Toss extends RuntimeException {
        private static final long serialVersionUID = 1L;
        final String name;
        final Thing thing;

        Toss(String name, Thing thing) {
            super(null, null, false, false);
            this.name = name;
            this.thing = thing;
        }
    }

    final PlainProgram p;
    final PlainJudge j;
    final List<Thing> things = new ArrayList<>();
    final List<Thr> threads = new ArrayList<>();
    final Map<Integer, Object> statics = new HashMap<>();
    final Map<PlainProgram.Cls, Thr> beginning = new HashMap<>();
    final Set<PlainProgram.Cls> done = new HashSet<>();
    private final Map<PlainProgram.Cls, BitSet> ends = new HashMap<>();
    private final Map<PlainProgram.Cls, BitSet> pending = new LinkedHashMap<>();
    private final Map<Integer, Thing> single = new HashMap<>();
    final List<Integer> said = new ArrayList<>();
    final List<int[]> clashes = new ArrayList<>();
    private final Set<Long> clashed = new HashSet<>();
    private final List<Object[]> noted = new ArrayList<>();
    boolean over;
    int steps;
    int rings;
    private Set<Set<Integer>> ringsThen = new HashSet<>();
    private long naps;
    boolean good = true;
    private int events;
    private final Map<String, int[][][]> last = new HashMap<>();
    private final Map<String, BitSet> volatiles = new HashMap<>();

    PlainRun(PlainProgram p, PlainJudge j) {
        this.p = p;
        this.j = j;
        Thr t = new Thr();
        threads.add(t);
        Frame f = push(t, p.main, -1);
        f.needsLock = p.main.is("synchronized");
        Group g = new Group();
        g.first = true;
        beginAll(t, p.main.cls, g);
        commit();
    }

    // ---- frames and classes

    private Frame push(Thr t, PlainProgram.Meth m, int ctx) {
        Frame f = new Frame();
        f.m = m;
        f.ctx = ctx;
        Arrays.fill(f.locals, UNSET);
        t.frames.add(f);
        return f;
    }

    private List<PlainProgram.Cls> chain(PlainProgram.Cls c) {
        List<PlainProgram.Cls> all = new ArrayList<>();
        for (PlainProgram.Cls d = c; d != null; d = p.up(d)) {
            all.add(d);
        }
        return all;
    }

    private PlainProgram.Meth clinit(PlainProgram.Cls c) {
        for (PlainProgram.Meth m : c.methods) {
            if (m.name.equals("<clinit>")) {
                return m;
            }
        }
        return null;
    }

    private boolean heldUp(Thr t, PlainProgram.Cls c) {
        if (c == null) {
            return false;
        }
        for (PlainProgram.Cls d : chain(c)) {
            if (beginning.get(d) != null && beginning.get(d) != t) {
                return true;
            }
        }
        return false;
    }

    private boolean hasBegun(PlainProgram.Cls c) {
        return done.contains(c) || pending.containsKey(c);
    }

    private boolean framesCome(Thr t, PlainProgram.Cls c) {
        return c != null && framesFor(t, c) > 0;
    }

    private int framesFor(Thr t, PlainProgram.Cls c) {
        int n = 0;
        for (PlainProgram.Cls d : chain(c)) {
            n += !hasBegun(d) && beginning.get(d) == null && clinit(d) != null ? 1 : 0;
        }
        return n;
    }

    /** An instruction lets a class begin: whether frames came. */
    private boolean beginAll(Thr t, PlainProgram.Cls c, Group g) {
        if (t.frames.size() + framesFor(t, c) > 30) {
            throw new Full();
        }
        for (PlainProgram.Cls d : chain(c)) {
            if (done.contains(d)) {
                t.past.or(ends.get(d));
            }
        }
        boolean came = false;
        for (PlainProgram.Cls d : chain(c)) {
            if (hasBegun(d) || beginning.get(d) != null) {
                continue;
            }
            if (j != null) {
                good &= j.begun.contains(d);
            }
            if (clinit(d) == null) {
                pending.put(d, (BitSet) t.past.clone());
            } else {
                beginning.put(d, t);
                Frame f = push(t, clinit(d), -1);
                f.clinitOf = d;
                f.group = g;
                came = true;
            }
        }
        return came;
    }

    private void commit() {
        for (Map.Entry<PlainProgram.Cls, BitSet> e : pending.entrySet()) {
            done.add(e.getKey());
            ends.put(e.getKey(), e.getValue());
        }
        pending.clear();
    }

    private void goAway(Thr t) {
        Frame f = t.top();
        while (!f.entered.isEmpty()) {
            exit(t, f.entered.remove(f.entered.size() - 1));
        }
        if (f.lock != null) {
            exit(t, f.lock);
        }
        t.frames.remove(t.frames.size() - 1);
        if (f.clinitOf != null) {
            beginning.remove(f.clinitOf);
            done.add(f.clinitOf);
            ends.put(f.clinitOf, (BitSet) t.past.clone());
        }
    }

    private void enter(Thr t, Thing n) {
        n.owner = t;
        n.entered++;
        t.past.or(n.left);
    }

    private void exit(Thr t, Thing n) {
        n.entered--;
        n.left.or(t.past);
        if (n.entered == 0) {
            n.owner = null;
        }
    }

    // ---- things

    private void room(int n) {
        if (things.size() + n > 400) {
            throw new Full();
        }
    }

    private Thing make(int site, String type, int ctx) {
        room(1);
        Thing n = new Thing();
        n.num = things.size();
        n.site = site;
        n.type = type;
        n.ctx = ctx;
        things.add(n);
        return n;
    }

    private Thing one(int site, String type) {
        Thing n = single.get(site);
        if (n == null) {
            n = make(site, type, -1);
            single.put(site, n);
        }
        return n;
    }

    static Object initial(String type) {
        return type.equals("int") ? (Object) 0 : null;
    }

    // ---- whether it can go on

    int mode(Thr t) {
        if (t.ended) {
            return 4;
        }
        if (t.sleepsAt != null) {
            return 2;
        }
        return waitsFor(t) != null ? 1 : waitsElse(t) ? 3 : 0;
    }

    private static boolean taken(Thr t, Thing n) {
        return n != null && n.owner != null && n.owner != t;
    }

    /** The thing that a thread waits for; null if none. */
    Thing waitsFor(Thr t) {
        if (t.ended || t.sleepsAt != null) {
            return null;
        }
        Thing n = null;
        if (t.wants != null) {
            n = t.wants;
        } else if (t.top().needsLock) {
            Frame f = t.top();
            n = f.m.isStatic() ? single.get(3000 + f.m.cls.num) : (Thing) f.locals[0];
        } else {
            PlainProgram.Ins i = t.top().ins();
            if (i.op == 53) {
                n = (Thing) t.top().stack.get(t.top().stack.size() - 1);
            } else if (i.op >= 49 && i.op <= 51) {
                Plan a = plan(t);
                if (!heldUp(t, a.begin) && !heldUp(t, a.then) && !framesCome(t, a.begin) && !framesCome(t, a.then) && a.raise == null
                    && a.m != null && a.m.is("synchronized")) {
                    n = a.m.isStatic() ? single.get(3000 + a.m.cls.num) : a.receiver;
                }
            }
        }
        return taken(t, n) ? n : null;
    }

    private boolean waitsElse(Thr t) {
        if (t.wants != null || t.top().needsLock) {
            return false;
        }
        PlainProgram.Ins i = t.top().ins();
        switch (i.op) {
            case 40: case 41: return heldUp(t, i.fld.cls);
            case 42: return heldUp(t, i.cls);
            case 49: case 50: case 51:
                Plan a = plan(t);
                if (heldUp(t, a.begin) || heldUp(t, a.then)) {
                    return true;
                }
                return a.raise == null && "join".equals(a.nativ) && a.receiver.thread != null && !a.receiver.thread.ended;
            default: return false;
        }
    }

    // ---- what a call comes to

    private static final class Plan {
        PlainProgram.Cls begin;
        PlainProgram.Cls then;
        String raise;
        PlainProgram.Meth m;
        String nativ;
        Thing receiver;
        Thing lambda;
        List<Object> values = new ArrayList<>();
        Thing native1;
        PlainProgram.Cls cls;
        PlainProgram.Meth found;
    }

    private static final List<String> NONE = new ArrayList<>();

    private boolean madeFor(Thing o, String name, List<String> params) {
        return o.lambda != null && o.lambda.made.name.equals(name) && o.lambda.made.params.equals(params);
    }

    private Plan plan(Thr t) {
        Frame f = t.top();
        PlainProgram.Ins i = f.ins();
        int takes = p.takes(i);
        List<Object> args = f.stack.subList(f.stack.size() - takes, f.stack.size());
        Plan a = new Plan();
        if (i.op == 51) {
            a.begin = i.meth.cls;
            a.values.addAll(args);
            if (!i.meth.nativ) {
                a.m = i.meth;
                return a;
            }
            a.nativ = i.meth.name;
            if (!a.nativ.equals("print")) {
                a.native1 = (Thing) args.get(0);
                if (a.native1 == null) {
                    a.raise = "NullPointer";
                } else if (a.nativ.equals("named")) {
                    int site = a.native1.site;
                    a.cls = site >= 2000 && site < 3000 ? p.cls(p.strings.get(site - 2000)) : null;
                    a.then = a.cls;
                    a.raise = a.cls == null ? "NoClass" : null;
                }
            }
            return a;
        }
        Thing o = (Thing) args.get(0);
        a.values.addAll(args.subList(1, args.size()));
        if (o == null) {
            a.raise = "NullPointer";
            return a;
        }
        if (i.op == 49 && madeFor(o, i.name, i.params)) {
            a.m = o.lambda.meth;
            a.lambda = o;
            return a;
        }
        PlainProgram.Meth m = i.op == 50 ? i.meth : p.select(o.type, i.name, i.params);
        a.receiver = o;
        if (m == null) {
            a.raise = "NoMethod";
        } else if (!m.nativ) {
            a.m = m;
        } else {
            a.nativ = m.name;
            planNative(t, a, o);
        }
        return a;
    }

    private void planNative(Thr t, Plan a, Thing o) {
        switch (a.nativ) {
            case "wait": case "notify": case "notifyAll":
                a.raise = o.owner != t ? "Monitor" : null;
                break;
            case "newInstance":
                a.cls = o.site >= 3000 && o.site < 4000 ? p.classes.get(o.site - 3000) : null;
                if (a.cls == null || a.cls.iface || a.cls.abs) {
                    a.raise = "NoClass";
                } else {
                    a.then = a.cls;
                    a.m = p.find(a.cls, "<init>", NONE);
                }
                break;
            case "find": {
                Thing v = (Thing) a.values.get(0);
                if (v == null) {
                    a.raise = "NullPointer";
                } else if (o.site < 3000 || o.site >= 4000 || v.site < 2000 || v.site >= 3000) {
                    a.raise = "NoMethod";
                } else {
                    a.found = found(p.classes.get(o.site - 3000), p.strings.get(v.site - 2000));
                    a.raise = a.found == null ? "NoMethod" : null;
                }
                break;
            }
            case "invoke": {
                Thing v = (Thing) a.values.get(0);
                a.values = new ArrayList<>();
                if (o.site < 4000 || o.site >= 5000) {
                    a.raise = "Cast";
                    break;
                }
                PlainProgram.Meth m = p.methods.get(o.site - 4000);
                if (m.isStatic()) {
                    a.then = m.cls;
                    a.m = m;
                    a.receiver = null;
                } else if (v == null) {
                    a.raise = "NullPointer";
                } else if (!p.below(v.type, m.cls.name)) {
                    a.raise = "Cast";
                } else if (madeFor(v, m.name, NONE)) {
                    a.m = v.lambda.meth;
                    a.lambda = v;
                    a.receiver = null;
                } else {
                    a.m = p.select(v.type, m.name, NONE);
                    a.receiver = v;
                    if (a.m == null || a.m.nativ) {
                        a.m = null;
                        a.raise = "NoMethod";
                    }
                }
                break;
            }
            case "start":
                a.raise = o.thread != null ? "State" : null;
                break;
            default:
                break;
        }
    }

    private PlainProgram.Meth found(PlainProgram.Cls c, String name) {
        for (PlainProgram.Cls d : chain(c)) {
            for (PlainProgram.Meth m : d.methods) {
                if (m.lines && m.name.equals(name) && m.params.isEmpty() && !name.startsWith("<")) {
                    return m;
                }
            }
        }
        return null;
    }

    // ---- steps

    int step(int k) {
        if (over || k < 0 || k >= threads.size() || mode(threads.get(k)) != 0) {
            return 0;
        }
        Thr t = threads.get(k);
        try {
            try {
                doStep(t);
            } catch (Toss x) {
                Thing n = x.thing != null ? x.thing : make(5000 + p.cls(x.name).num, x.name, -1);
                toss(t, n);
            }
        } catch (Full x) {
            pending.clear();
            over = true;
            return 0;
        }
        commit();
        steps++;
        if (t.frames.isEmpty()) {
            t.ended = true;
        }
        beginHooked();
        if (j != null) {
            for (Thr u : threads) {
                if (u == t || u.frames.size() == 1) {
                    foresee(u);
                }
            }
        }
        findRings();
        return 1;
    }

    int run(int most, int draw) {
        int x = draw;
        for (int k = 0; k < most; k++) {
            x = x * 1103515245 + 12345 & 0x7fffffff;
            List<Thr> can = new ArrayList<>();
            for (Thr t : threads) {
                if (mode(t) == 0) {
                    can.add(t);
                }
            }
            if (over || can.isEmpty() || step(can.get(x / 65536 % can.size()).num) == 0) {
                return k;
            }
        }
        return most;
    }

    private int contextOfMade(Frame f) {
        return j == null ? -1 : j.contextOfMade(f.ctx);
    }

    private PlainJudge.Node node(Frame f) {
        PlainJudge.Inst k = j == null ? null : j.instAt.get(f.m.num * 100000L + f.ctx);
        return k == null ? null : k.nodes.get(f.idx);
    }

    private void doStep(Thr t) {
        Frame f = t.top();
        if (t.wants != null) {
            enter(t, t.wants);
            t.wants.entered = t.count;
            t.wants = null;
            return;
        }
        if (f.needsLock) {
            Thing n = f.m.isStatic() ? one(3000 + f.m.cls.num, "Class") : (Thing) f.locals[0];
            enter(t, n);
            f.lock = n;
            f.needsLock = false;
            return;
        }
        PlainProgram.Ins i = f.ins();
        int takes = p.takes(i);
        List<Object> a = new ArrayList<>(f.stack.subList(f.stack.size() - takes, f.stack.size()));
        List<Object> left = new ArrayList<>();
        int next = f.idx + 1;
        switch (i.op) {
            case 0: left.add(i.n); break;
            case 1: left.add(one(2000 + i.string, "String")); break;
            case 2: left.add(null); break;
            case 3: left.add(f.locals[i.n]); break;
            case 4: f.locals[i.n] = a.get(0); break;
            case 5: f.locals[i.n] = (Integer) f.locals[i.n] + i.n2; break;
            case 6: left.add((Integer) a.get(0) + (Integer) a.get(1)); break;
            case 7: left.add((Integer) a.get(0) - (Integer) a.get(1)); break;
            case 8: left.add((Integer) a.get(0) * (Integer) a.get(1)); break;
            case 9: case 10: {
                long x = (Integer) a.get(0);
                long y = (Integer) a.get(1);
                if (y == 0) {
                    throw new Toss("Arithmetic", null);
                }
                left.add((int) (i.op == 9 ? x / y : x % y));
                break;
            }
            case 11: left.add(-(Integer) a.get(0)); break;
            case 12: left.add((Integer) a.get(0) & (Integer) a.get(1)); break;
            case 13: left.add((Integer) a.get(0) | (Integer) a.get(1)); break;
            case 14: left.add((Integer) a.get(0) ^ (Integer) a.get(1)); break;
            case 15: left.add((Integer) a.get(0) << ((Integer) a.get(1) & 31)); break;
            case 16: left.add((Integer) a.get(0) >> ((Integer) a.get(1) & 31)); break;
            case 17: break;
            case 18: left.add(a.get(0)); left.add(a.get(0)); break;
            case 19: left.add(a.get(1)); left.add(a.get(0)); left.add(a.get(1)); break;
            case 20: left.add(a.get(1)); left.add(a.get(0)); break;
            case 21: next = i.target; break;
            case 22: case 23: case 24: case 25: case 26: case 27:
                next = compares(i.op - 22, (Integer) a.get(0), 0) ? i.target : next;
                break;
            case 28: case 29: case 30: case 31: case 32: case 33:
                next = compares(i.op - 28, (Integer) a.get(0), (Integer) a.get(1)) ? i.target : next;
                break;
            case 34: next = a.get(0) == a.get(1) ? i.target : next; break;
            case 35: next = a.get(0) != a.get(1) ? i.target : next; break;
            case 36: next = a.get(0) == null ? i.target : next; break;
            case 37: next = a.get(0) != null ? i.target : next; break;
            case 38: {
                Thing n = some(a.get(0));
                access(t, i, n.num + "." + i.fld.num, i.fld, false);
                left.add(n.fields.getOrDefault(i.fld.num, initial(i.fld.type)));
                break;
            }
            case 39: {
                Thing n = some(a.get(0));
                access(t, i, n.num + "." + i.fld.num, i.fld, true);
                n.fields.put(i.fld.num, a.get(1));
                break;
            }
            case 40: case 41:
                if (beginAll(t, i.fld.cls, new Group())) {
                    return;
                }
                access(t, i, "static" + i.fld.num, i.fld, i.op == 41);
                if (i.op == 40) {
                    left.add(statics.getOrDefault(i.fld.num, initial(i.fld.type)));
                } else {
                    statics.put(i.fld.num, a.get(0));
                }
                break;
            case 42:
                if (beginAll(t, i.cls, new Group())) {
                    return;
                }
                left.add(make(i.num, i.owner, contextOfMade(f)));
                break;
            case 43: {
                int length = (Integer) a.get(0);
                if (length < 0 || length > 16) {
                    throw new Toss("Size", null);
                }
                Thing n = make(i.num, i.type + "[]", contextOfMade(f));
                n.elements = new Object[length];
                Arrays.fill(n.elements, initial(i.type));
                left.add(n);
                break;
            }
            case 44: case 45: {
                Thing n = some(a.get(0));
                int k = (Integer) a.get(1);
                if (k < 0 || k >= n.elements.length) {
                    throw new Toss("Index", null);
                }
                if (i.op == 45 && a.get(2) instanceof Thing && !p.below(((Thing) a.get(2)).type, PlainProgram.base(n.type))) {
                    throw new Toss("Store", null);
                }
                access(t, i, n.num + "[" + k, null, i.op == 45);
                if (i.op == 44) {
                    left.add(n.elements[k]);
                } else {
                    n.elements[k] = a.get(2);
                }
                break;
            }
            case 46: left.add(some(a.get(0)).elements.length); break;
            case 47:
                if (a.get(0) != null && !p.below(((Thing) a.get(0)).type, i.type)) {
                    throw new Toss("Cast", null);
                }
                left.add(a.get(0));
                break;
            case 48: left.add(a.get(0) != null && p.below(((Thing) a.get(0)).type, i.type) ? 1 : 0); break;
            case 49: case 50: case 51: call(t, f, i); return;
            case 52: {
                Thing n = make(i.num, i.face, contextOfMade(f));
                n.lambda = i;
                n.has = a;
                left.add(n);
                break;
            }
            case 53: {
                Thing n = some(a.get(0));
                enter(t, n);
                f.entered.add(n);
                break;
            }
            case 54: {
                Thing n = some(a.get(0));
                if (f.entered.isEmpty() || f.entered.get(f.entered.size() - 1) != n) {
                    throw new Toss("Monitor", null);
                }
                f.entered.remove(f.entered.size() - 1);
                exit(t, n);
                break;
            }
            case 55: throw new Toss(null, some(a.get(0)));
            case 56: case 57: leave(t, f, i.op == 57, i.op == 57 ? a.get(0) : null); return;
            default: throw new IllegalStateException();
        }
        finish(f, takes, left, next);
    }

    private void finish(Frame f, int takes, List<Object> left, int next) {
        for (int k = 0; k < takes; k++) {
            f.pop();
        }
        f.stack.addAll(left);
        f.idx = next;
    }

    private static boolean compares(int how, int a, int b) {
        switch (how) {
            case 0: return a == b;
            case 1: return a != b;
            case 2: return a < b;
            case 3: return a >= b;
            case 4: return a > b;
            default: return a <= b;
        }
    }

    private Thing some(Object n) {
        if (n == null) {
            throw new Toss("NullPointer", null);
        }
        return (Thing) n;
    }

    private void call(Thr t, Frame f, PlainProgram.Ins i) {
        Plan a = plan(t);
        int takes = p.takes(i);
        if (a.begin != null && beginAll(t, a.begin, new Group())) {
            return;
        }
        if (a.raise != null) {
            throw new Toss(a.raise, null);
        }
        if (a.then != null && beginAll(t, a.then, new Group())) {
            return;
        }
        List<Object> left = new ArrayList<>();
        if (a.m == null) {
            switch (a.nativ) {
                case "wait":
                    t.count = a.receiver.entered;
                    a.receiver.entered = 1;
                    exit(t, a.receiver);
                    t.sleepsAt = a.receiver;
                    t.since = naps++;
                    break;
                case "notify": case "notifyAll": {
                    Thr first = null;
                    for (Thr u : threads) {
                        if (u.sleepsAt == a.receiver) {
                            if (a.nativ.equals("notifyAll")) {
                                u.wants = u.sleepsAt;
                                u.sleepsAt = null;
                            } else if (first == null || u.since < first.since) {
                                first = u;
                            }
                        }
                    }
                    if (first != null) {
                        first.wants = first.sleepsAt;
                        first.sleepsAt = null;
                    }
                    break;
                }
                case "named": left.add(one(3000 + a.cls.num, "Class")); break;
                case "find": left.add(one(4000 + a.found.num, "Method")); break;
                case "join":
                    if (a.receiver.thread != null) {
                        t.past.or(a.receiver.thread.past);
                    }
                    break;
                case "start":
                    if (threads.size() == 12) {
                        throw new Full();
                    }
                    begin(a.receiver, i, node(f), t.past);
                    break;
                case "hook": {
                    boolean known = false;
                    for (Object[] n : noted) {
                        known |= n[0] == a.native1;
                    }
                    if (!known) {
                        noted.add(new Object[] {a.native1, i, node(f)});
                    }
                    break;
                }
                case "print":
                    if (said.size() < 200) {
                        said.add((Integer) a.values.get(0));
                    }
                    break;
                default: throw new IllegalStateException(a.nativ);
            }
            finish(f, takes, left, f.idx + 1);
            return;
        }
        boolean makes = "newInstance".equals(a.nativ);
        boolean lockIsNew = a.m.is("synchronized") && a.m.isStatic() && single.get(3000 + a.m.cls.num) == null;
        if (t.frames.size() == 30) {
            throw new Full();
        }
        room((makes ? 1 : 0) + (lockIsNew ? 1 : 0));
        Thing made = makes ? make(6000 + a.cls.num, a.cls.name, contextOfMade(f)) : null;
        Thing receiver = a.m.isStatic() ? null : makes ? made : a.receiver;
        int ctx = j == null ? -1 : j.context(i, receiver == null ? -1 : receiver.site, receiver == null ? null : receiver.type, f.ctx);
        if (j != null) {
            PlainJudge.Node n = node(f);
            PlainJudge.Inst k = j.instAt.get(a.m.num * 100000L + ctx);
            good &= n != null && k != null && n.calls.contains(k);
        }
        for (int k = 0; k < takes; k++) {
            f.pop();
        }
        Frame g = push(t, a.m, ctx);
        g.nativ = a.nativ;
        g.made = made;
        int q = 0;
        if (receiver != null) {
            g.locals[q++] = receiver;
        }
        if (a.lambda != null) {
            for (Object v : a.lambda.has) {
                g.locals[q++] = v;
            }
        }
        for (Object v : a.values) {
            g.locals[q++] = v;
        }
        if (a.m.is("synchronized")) {
            g.lock = a.m.isStatic() ? one(3000 + a.m.cls.num, "Class") : receiver;
            enter(t, g.lock);
        }
    }

    private void leave(Thr t, Frame f, boolean gives, Object v) {
        goAway(t);
        if (t.frames.isEmpty() || f.clinitOf != null) {
            return;
        }
        Frame g = t.top();
        if ("newInstance".equals(f.nativ)) {
            g.stack.add(f.made);
        } else if ("invoke".equals(f.nativ)) {
            g.stack.add(f.m.type.equals("int") || !gives ? null : v);
        } else if (gives) {
            g.stack.add(v);
        }
        g.idx++;
    }

    private void toss(Thr t, Thing x) {
        while (!t.frames.isEmpty()) {
            Frame f = t.top();
            for (PlainProgram.Catch c : f.m.catches) {
                if (PlainProgram.within(c, f.idx) && p.below(x.type, c.cls)) {
                    f.stack.clear();
                    f.stack.add(x);
                    f.idx = c.h;
                    return;
                }
            }
            goAway(t);
            if (f.clinitOf != null) {
                while (!t.frames.isEmpty() && t.top().group == f.group) {
                    goAway(t);
                }
                if (f.group.first) {
                    goAway(t);
                }
            }
        }
        if (t.run) {
            t.run = false;
            first(t, "uncaught", Arrays.asList("Throwable"), x);
        }
    }

    // ---- threads

    private boolean first(Thr t, String name, List<String> params, Thing x) {
        PlainProgram.Meth m = p.select(t.thing.type, name, params);
        if (m == null) {
            return false;
        }
        int ctx = j == null ? -1 : j.context(t.by, t.thing.site, t.thing.type, -1);
        if (j != null) {
            PlainJudge.Inst k = j.instAt.get(m.num * 100000L + ctx);
            good &= t.byNode != null && k != null && t.byNode.starts.contains(k);
        }
        Frame f = push(t, m, ctx);
        f.locals[0] = t.thing;
        if (x != null) {
            f.locals[1] = x;
        }
        f.needsLock = m.is("synchronized");
        return true;
    }

    private void begin(Thing o, PlainProgram.Ins i, PlainJudge.Node n, BitSet past) {
        Thr u = new Thr();
        u.num = threads.size();
        u.thing = o;
        u.by = i;
        u.byNode = n;
        u.past.or(past);
        threads.add(u);
        o.thread = u;
        u.run = first(u, "run", NONE, null);
        u.ended = !u.run;
    }

    private void beginHooked() {
        BitSet past = new BitSet();
        for (Thr t : threads) {
            if (!t.ended) {
                return;
            }
            past.or(t.past);
        }
        List<Object[]> those = new ArrayList<>();
        for (Object[] n : noted) {
            if (((Thing) n[0]).thread == null) {
                those.add(n);
            }
        }
        if (threads.size() + those.size() > 12) {
            over = true;
            return;
        }
        noted.clear();
        for (Object[] n : those) {
            begin((Thing) n[0], (PlainProgram.Ins) n[1], (PlainJudge.Node) n[2], past);
        }
    }

    // ---- CLOCKS: what is in a thread's past happened before

    private void access(Thr t, PlainProgram.Ins i, String place, PlainProgram.Fld f, boolean writes) {
        if (f != null && f.flags.contains("volatile")) {
            BitSet w = volatiles.computeIfAbsent(place, x -> new BitSet());
            if (writes) {
                w.or(t.past);
            } else {
                t.past.or(w);
            }
            return;
        }
        if (f != null && f.flags.contains("final")) {
            return;
        }
        int[][][] l = last.computeIfAbsent(place, x -> new int[12][2][]);
        for (int u = 0; u < 12; u++) {
            for (int w = writes ? 0 : 1; w < 2; w++) {
                if (u != t.num && l[u][w] != null && !t.past.get(l[u][w][0])) {
                    int low = Math.min(i.num, l[u][w][1]);
                    int high = Math.max(i.num, l[u][w][1]);
                    if (clashed.add(low * 10000L + high)) {
                        clashes.add(new int[] {low, high});
                        if (j != null) {
                            good &= j.races.containsKey(low * 10000L + high);
                        }
                    }
                }
            }
        }
        int e = events++;
        t.past.set(e);
        l[t.num][writes ? 1 : 0] = new int[] {e, i.num};
    }

    // ---- FORESEEN

    private boolean in(Object v, BitSet set) {
        if (!(v instanceof Thing)) {
            return true;
        }
        PlainJudge.Obj o = j.objAt.get(((Thing) v).site * 100000L + ((Thing) v).ctx);
        return o != null && set != null && set.get(o.id);
    }

    private void foresee(Thr t) {
        for (Frame f : t.frames) {
            PlainJudge.Node n = node(f);
            if (n == null) {
                good = false;
                return;
            }
            for (int k = 0; k < 10; k++) {
                good &= in(f.locals[k], n.in[k]);
            }
            for (int k = 0; k < f.stack.size(); k++) {
                good &= in(f.stack.get(k), n.in[10 + k]);
            }
        }
    }

    boolean foreseen() {
        if (j == null) {
            return true;
        }
        for (PlainProgram.Ins i : p.code) {
            if (j.isUnresolved(i)) {
                return true;
            }
        }
        for (Map.Entry<Integer, Object> e : statics.entrySet()) {
            good &= in(e.getValue(), j.statics.get(e.getKey()));
        }
        for (Thing n : things) {
            PlainJudge.Obj o = j.objAt.get(n.site * 100000L + n.ctx);
            good &= o != null || n.site >= 3000 && n.site < 4000;
            if (o == null) {
                continue;
            }
            for (Map.Entry<Integer, Object> e : n.fields.entrySet()) {
                good &= in(e.getValue(), o.fields.get(e.getKey()));
            }
            for (Object v : n.elements) {
                good &= in(v, o.elements);
            }
        }
        return good;
    }

    private void findRings() {
        Set<Set<Integer>> now = new HashSet<>();
        for (Thr t : threads) {
            Set<Integer> ring = new LinkedHashSet<>();
            List<Thing> wanted = new ArrayList<>();
            Thr u = t;
            while (u != null && ring.add(u.num)) {
                Thing n = waitsFor(u);
                wanted.add(n);
                u = n == null ? null : n.owner;
            }
            if (u != t) {
                continue;
            }
            if (now.add(new TreeSet<>(ring)) && !ringsThen.contains(new TreeSet<>(ring))) {
                rings++;
                for (int k = 0; j != null && k < wanted.size(); k++) {
                    Thing held = wanted.get(k);
                    Thing next = wanted.get((k + 1) % wanted.size());
                    PlainJudge.Obj a = j.objAt.get(held.site * 100000L + held.ctx);
                    PlainJudge.Obj b = j.objAt.get(next.site * 100000L + next.ctx);
                    good &= a != null && b != null && j.isKnotOf(a, b);
                }
            }
        }
        ringsThen = now;
    }
}
