import java.util.ArrayList;
import java.util.Arrays;
import java.util.Collections;
import java.util.HashMap;
import java.util.HashSet;
import java.util.List;
import java.util.Map;
import java.util.Random;
import java.util.Set;
import java.util.TreeSet;

/** Makes texts of programs that load, from a seed, type by type: interfaces, lambdas of all makes, arrays, catches, reflection. */
final class TypedMaker {
    /** A method that is to be made. */
    private static final class Sign {
        final String cls;
        final String name;
        final String type;
        final List<String> params;
        final String flags;

        Sign(String cls, String flags, String... sign) {
            this.cls = cls;
            this.flags = flags;
            name = sign[0];
            type = sign[1];
            params = sign[2].isEmpty() ? new ArrayList<>() : Arrays.asList(sign[2].split(","));
        }

        boolean isStatic() {
            return flags.startsWith("static");
        }

        String told() {
            return type + " " + cls + "." + name + "(" + String.join(", ", params) + ")";
        }
    }

    private static final String[] THROWN = "NullPointer Arithmetic Index Cast Store Size Monitor State NoClass NoMethod".split(" ");
    private static final String[][] VIRTUAL = {
        {"r", "void", ""}, {"f", "Object", "Object"}, {"g", "int", "int"}, {"run", "void", ""}, {"uncaught", "void", "Throwable"}, {"h", "Object", ""}};
    private static final String[][] STATIC = {
        {"s", "void", ""}, {"l", "Object", "Object"}, {"k", "Object", "Object,Object"}, {"i", "int", "int"}, {"v", "void", "Object"}, {"w", "int", "Object,int"}};

    private final Random r;
    private final List<String> names = new ArrayList<>();
    private final Map<String, String> ext = new HashMap<>();
    private final Map<String, List<String>> impl = new HashMap<>();
    private final Set<String> interfaces = new HashSet<>();
    private final Set<String> abstracts = new HashSet<>();
    private final Set<String> excluded = new HashSet<>();
    private final List<String[]> statics = new ArrayList<>();
    private final List<String[]> fields = new ArrayList<>();
    private final List<Sign> fixed = new ArrayList<>();
    private final List<Sign> virtual = new ArrayList<>();
    private final List<Sign> signs = new ArrayList<>();
    private final List<String> types = new ArrayList<>();
    private final Map<String, Sign> lone = new HashMap<>();
    private int size;
    // of the method that is made
    private Sign m;
    private StringBuilder b;
    private int labels;
    private int budget;
    private int rows;
    private boolean caught;
    private String[] locals;
    private final List<String> catches = new ArrayList<>();

    TypedMaker(long seed) {
        r = new Random(seed * 7919 + 13);
    }

    private boolean one(int of) {
        return r.nextInt(of) == 0;
    }

    private <T> T of(List<T> all) {
        return all.get(r.nextInt(all.size()));
    }

    private String of(String... all) {
        return all[r.nextInt(all.length)];
    }

    String text() {
        makeClasses();
        Map<String, String> heads = new HashMap<>();
        Map<String, String> bodies = new HashMap<>();
        Map<String, String> bones = new HashMap<>();
        for (String c : names) {
            heads.put(c, makeFields(c));
            makeSigns(c);
        }
        signs.add(new Sign("M", "static" + (one(8) ? " synchronized" : ""), "main", "void", ""));
        List<String> order = new ArrayList<>(names);
        if (one(2)) {
            Collections.shuffle(order, r);
        }
        for (Sign s : signs) {
            String gives = s.type.equals("void") ? "return; " : s.type.equals("int") ? "push 0; give; " : "null; give; ";
            bones.merge(s.cls, method(s, gives), String::concat);
        }
        findLone(new PlainProgram(whole(order, heads, bones)));
        for (Sign s : signs) {
            bodies.merge(s.cls, method(s, s.flags.equals("abstract") ? "" : body(s)), String::concat);
        }
        return whole(order, heads, bodies);
    }

    private static String method(Sign s, String body) {
        String head = s.flags + " method " + s.type + " " + s.name + "(" + String.join(", ", s.params) + ")";
        return head + (s.flags.equals("abstract") ? "; " : " { " + body + "} ");
    }

    private String whole(List<String> order, Map<String, String> heads, Map<String, String> bodies) {
        StringBuilder all = new StringBuilder();
        for (String c : order) {
            all.append(excluded.contains(c) ? "excluded " : "").append(abstracts.contains(c) ? "abstract " : "");
            all.append(interfaces.contains(c) ? "interface " : "class ").append(c);
            if (!interfaces.contains(c) && !ext.get(c).equals("Object")) {
                all.append(" extends ").append(ext.get(c));
            }
            if (!impl.get(c).isEmpty()) {
                all.append(" implements ").append(String.join(", ", impl.get(c)));
            }
            all.append(" { ").append(heads.get(c)).append(bodies.getOrDefault(c, "")).append("} ");
        }
        return all.toString();
    }

    // ---- classes, fields, signs

    private void makeClasses() {
        for (String c : "Thread String Class Method Throwable".split(" ")) {
            ext.put(c, "Object");
        }
        for (String c : THROWN) {
            ext.put(c, "Throwable");
        }
        impl.put("Thread", List.of("Runnable"));
        int n = 1 + r.nextInt(3);
        for (int k = 0; k < n; k++) {
            names.add("I" + k);
            interfaces.add("I" + k);
            ext.put("I" + k, "Object");
            impl.put("I" + k, someOf(k, 2, 4));
        }
        int classes = 2 + r.nextInt(4);
        for (int k = 0; k < classes; k++) {
            String c = "C" + k;
            names.add(c);
            ext.put(c, k > 0 && one(2) ? "C" + r.nextInt(k) : one(3) ? "Thread" : one(5) ? "Throwable" : "Object");
            impl.put(c, someOf(n, 3, 5));
            if (one(8)) {
                abstracts.add(c);
            }
            if (one(25)) {
                excluded.add(c);
            }
        }
        names.add("M");
        ext.put("M", "Object");
        impl.put("M", new ArrayList<>());
        types.addAll(names);
        types.addAll(List.of("Object", "Object", "Object", "Runnable", "Thread", "Throwable", "Class", "Method", "String", "Object[]", "int[]", "C0[]"));
    }

    private List<String> someOf(int n, int of, int runnable) {
        List<String> all = new ArrayList<>();
        for (int k = 0; k < n; k++) {
            if (one(of)) {
                all.add("I" + k);
            }
        }
        if (one(runnable)) {
            all.add("Runnable");
        }
        return all;
    }

    private boolean below(String a, String t) {
        if (a.equals(t) || t.equals("Object")) {
            return !a.equals("int") || t.equals("int");
        }
        if (a.endsWith("[]") || t.endsWith("[]")) {
            boolean both = a.endsWith("[]") && t.endsWith("[]") && !a.equals("int[]") && !t.equals("int[]");
            return both && below(a.substring(0, a.length() - 2), t.substring(0, t.length() - 2));
        }
        if (a.equals("int") || t.equals("int")) {
            return false;
        }
        boolean is = ext.containsKey(a) && below(ext.get(a), t);
        for (String i : impl.getOrDefault(a, List.of())) {
            is |= below(i, t);
        }
        return is;
    }

    private String makeFields(String c) {
        StringBuilder all = new StringBuilder();
        int n = 1 + r.nextInt(2) + (c.equals("M") ? 3 : 0);
        for (int k = 0; k < n; k++) {
            String[] f = {c, "f" + c + k, one(3) ? "int" : of(types)};
            boolean is = interfaces.contains(c) || c.equals("M") || one(2);
            (is ? statics : fields).add(f);
            all.append(one(6) ? "volatile " : "").append(is ? "static " : "").append("field ").append(f[2]).append(' ').append(f[1]).append("; ");
        }
        return all.toString();
    }

    private void makeSigns(String c) {
        boolean face = interfaces.contains(c);
        for (String[] s : VIRTUAL) {
            if (one(s[0].equals("run") ? 2 : 3)) {
                boolean open = face && one(2) || abstracts.contains(c) && one(3);
                virtual.add(new Sign(c, open ? "abstract" : face || !one(3) ? "" : "synchronized", s));
                signs.add(virtual.get(virtual.size() - 1));
            }
        }
        for (String[] s : STATIC) {
            if (one(face ? 5 : 2) || c.equals("M") && (s[0].equals("s") || s[0].equals("v"))) {
                fixed.add(new Sign(c, "static" + (one(3) ? " synchronized" : ""), s[0] + "_", s[1], s[2]));
                signs.add(fixed.get(fixed.size() - 1));
            }
        }
        if (one(4)) {
            signs.add(new Sign(c, "static", "<clinit>", "void", ""));
        }
        if (!face && one(3)) {
            signs.add(new Sign(c, "", "<init>", "void", ""));
        }
    }

    /** The abstract methods that lambdas are made for. */
    private void findLone(PlainProgram p) {
        for (PlainProgram.Cls c : p.classes) {
            Set<String> open = new TreeSet<>();
            Sign sign = null;
            for (PlainProgram.Meth a : p.methods) {
                if (c.iface && p.fault == 0 && a.is("abstract") && p.below(c.name, a.cls.name) && p.select(c.name, a.name, a.params) == null) {
                    open.add(a.name + a.params);
                    sign = new Sign(c.name, "", a.name, a.type, String.join(",", a.params));
                }
            }
            if (open.size() == 1) {
                lone.put(c.name, sign);
            }
        }
    }

    // ---- lines

    private void put(String line) {
        b.append(line).append("; ");
        budget--;
        size++;
    }

    private String label() {
        return "L" + labels++;
    }

    private void here(String label) {
        b.append(label).append(": ");
    }

    private String body(Sign sign) {
        m = sign;
        b = new StringBuilder();
        labels = 0;
        rows = 0;
        caught = false;
        catches.clear();
        locals = new String[10];
        boolean main = m.name.equals("main");
        budget = main ? 90 : size > 300 ? 6 : m.cls.equals("M") || m.name.equals("run") ? 15 + r.nextInt(25) : 8 + r.nextInt(18);
        firstLocals(main);
        if (main) {
            firstFields();
            for (int k = r.nextInt(4); k >= 0; k--) {
                startThread();
            }
        }
        boolean guarded = main || m.name.equals("run") || m.name.equals("s_") || one(4);
        while (guarded && budget > 12 && catches.size() < 5) {
            guarded(0);
        }
        if (!guarded) {
            lines(0);
        }
        if (m.type.equals("void")) {
            put("return");
        } else {
            value(m.type, 0, 1);
            put("give");
        }
        for (String c : catches) {
            b.append("catch ").append(c).append("; ");
        }
        return b.toString();
    }

    private void firstLocals(boolean main) {
        int q = 0;
        if (!m.isStatic()) {
            locals[q++] = m.cls;
        }
        for (String t : m.params) {
            locals[q++] = t;
        }
        for (int k = main ? 5 : r.nextInt(3); k > 0 && q < 8; k--, q++) {
            String t = one(3) ? "int" : main && one(2) ? "Thread" : of(types);
            if (t.equals("int") || !one(6)) {
                value(t, 0, 2);
            } else {
                put("null");
            }
            put("store " + q);
            locals[q] = t;
        }
    }

    private void firstFields() {
        for (String[] f : statics) {
            if (budget > 50 && one(2) && !f[2].equals("int")) {
                simple(f[2], 0);
                put("putstatic " + f[0] + "." + f[1]);
            }
        }
    }

    private void lines(int depth) {
        for (int k = r.nextInt(4); k >= 0 && budget > 4; k--) {
            line(depth);
        }
    }

    private void line(int depth) {
        switch (r.nextInt(18)) {
            case 0: case 1: case 2: case 3: assign(); break;
            case 4:
                number(0, 2);
                put("call void Out.print(int)");
                break;
            case 5:
                if (depth < 3) {
                    String end = label();
                    jump(end);
                    lines(depth + 1);
                    here(end);
                }
                break;
            case 6: loop(depth); break;
            case 7: case 8: monitor(depth, false); break;
            case 9: case 10:
                if (catches.size() < 6 && depth < 3) {
                    guarded(depth);
                }
                break;
            case 11: case 12: {
                Sign s = one(2) && !virtual.isEmpty() ? of(virtual) : of(fixed);
                call(s, 0, 2);
                if (!s.type.equals("void")) {
                    put("pop");
                }
                break;
            }
            case 13: startThread(); break;
            case 14:
                reference("Thread", 0, 1);
                put("virtual void Thread." + of("start", "join", "join") + "()");
                break;
            case 15:
                reference("Object", 0, 1);
                put("virtual void Object." + of("wait", "notify", "notifyAll") + "()");
                break;
            case 16: throwing(); break;
            default:
                reference(of(types), 0, 3);
                put("pop");
                break;
        }
    }

    private void throwing() {
        if (!one(3)) {
            return;
        }
        String end = label();
        reference("Throwable", 0, 2);
        put("push " + r.nextInt(2));
        put("ifeq " + end);
        put("throw");
        here(end);
        put("pop");
    }

    private void loop(int depth) {
        int k = local("int");
        if (depth > 1 || k < 0) {
            return;
        }
        String first = label();
        String end = label();
        put("push 0");
        put("store " + k);
        here(first);
        put("load " + k);
        put("push " + (1 + r.nextInt(3)));
        put("cmpge " + end);
        locals[k] = null;
        lines(depth + 1);
        locals[k] = "int";
        put("inc " + k + " 1");
        put("goto " + first);
        here(end);
    }

    /** A local of just that type; BAD if there is none. */
    private int local(String type) {
        List<Integer> all = new ArrayList<>();
        for (int k = m.isStatic() ? 0 : 1; k < 10; k++) {
            if (locals[k] != null && (type == null ? !locals[k].equals("?") : locals[k].equals(type))) {
                all.add(k);
            }
        }
        return all.isEmpty() ? -1 : of(all);
    }

    private int freeLocal() {
        for (int k = 9; k >= 0; k--) {
            if (locals[k] == null) {
                return k;
            }
        }
        return -1;
    }

    /** A monitor is entered and exited; not within a catch, for the row would be another one there. */
    private void monitor(int depth, boolean more) {
        int k = freeLocal();
        if (k < 0 || caught || rows > 2 || depth > 3) {
            return;
        }
        String[] f = of(statics);
        if (f[2].equals("int")) {
            reference(of("Object", of(types)), 0, 2);
        } else {
            put("getstatic " + f[0] + "." + f[1]);
        }
        put("store " + k);
        locals[k] = "?";
        String end = label();
        put("load " + k);
        put("ifnull " + end);
        put("load " + k);
        put("enter");
        rows++;
        if (more) {
            monitor(depth + 1, one(2));
        } else {
            lines(depth + 1);
        }
        if (one(4)) {
            put("load " + k);
            put("virtual void Object." + of("wait", "notify", "notifyAll") + "()");
        }
        put("load " + k);
        put("exit");
        rows--;
        here(end);
        locals[k] = null;
    }

    private void guarded(int depth) {
        String from = label();
        String to = label();
        String handler = label();
        String end = label();
        boolean was = caught;
        caught = true;
        here(from);
        put("push 1");
        put("pop");
        lines(depth + 1);
        put("goto " + end);
        here(to);
        here(handler);
        put("pop");
        here(end);
        caught = was;
        catches.add((one(4) ? of(THROWN) : "Throwable") + " " + from + " " + to + " " + handler);
        if (one(2) && budget > 8) {
            monitor(depth, true);
        }
    }

    private void startThread() {
        List<String> all = new ArrayList<>();
        for (String c : names) {
            if (below(c, "Thread") && !abstracts.contains(c)) {
                all.add(c);
            }
        }
        if (one(3)) {
            simple("Thread", 0);
        } else if (one(2) && !all.isEmpty()) {
            put("new " + of(all));
        } else {
            put("new Thread");
            put("dup");
            put("lambda Runnable void M.s_()");
            put("special void Thread.<init>(Runnable)");
        }
        put("dup");
        int k = local("Thread");
        put(k < 0 ? "pop" : "store " + k);
        put(one(5) ? "call void Runtime.hook(Thread)" : "virtual void Thread.start()");
    }

    private void assign() {
        switch (r.nextInt(4)) {
            case 0: {
                int k = local(null);
                if (k >= 0) {
                    value(locals[k], 0, 2);
                    put("store " + k);
                }
                break;
            }
            case 1: {
                String[] f = of(statics);
                value(f[2], 0, 2);
                put("putstatic " + f[0] + "." + f[1]);
                break;
            }
            case 2:
                if (!fields.isEmpty()) {
                    String[] f = of(fields);
                    reference(f[0], 0, 2);
                    value(f[2], 1, 2);
                    put("put " + f[0] + "." + f[1]);
                }
                break;
            default: {
                String t = of("Object[]", "int[]", "C0[]");
                reference(t, 0, 2);
                number(1, 1);
                value(t.equals("int[]") ? "int" : of("C0", "Object"), 2, 2);
                put("setelement");
                break;
            }
        }
    }

    private void jump(String to) {
        switch (r.nextInt(4)) {
            case 0:
                number(0, 1);
                put(of("ifeq", "ifne", "iflt", "ifge", "ifgt", "ifle") + " " + to);
                break;
            case 1:
                number(0, 1);
                number(1, 1);
                put(of("cmpeq", "cmpne", "cmplt", "cmpge", "cmpgt", "cmple") + " " + to);
                break;
            case 2:
                reference(of(types), 0, 1);
                put(of("ifnull", "ifsome") + " " + to);
                break;
            default:
                reference("Object", 0, 1);
                reference("Object", 1, 1);
                put(of("same", "other") + " " + to);
                break;
        }
    }

    // ---- values; how high the stack is, and how deep it may go

    private void value(String type, int height, int depth) {
        if (type.equals("int")) {
            number(height, depth);
        } else {
            reference(type, height, depth);
        }
    }

    private void call(Sign s, int height, int depth) {
        String told = s.told();
        int at = height;
        boolean own = !s.isStatic() && !m.isStatic() && one(5) && !m.cls.equals(s.cls) && below(m.cls, s.cls) && !s.flags.equals("abstract");
        if (own) {
            put("load 0");
            at++;
        } else if (!s.isStatic()) {
            List<String> all = new ArrayList<>();
            for (String c : names) {
                if (below(c, s.cls)) {
                    all.add(c);
                }
            }
            String c = of(all);
            reference(c, at++, depth);
            told = s.type + " " + c + "." + told.substring(told.indexOf('.') + 1);
        }
        for (String t : s.params) {
            value(t, at++, depth - 1);
        }
        put((own ? "special " : s.isStatic() ? "call " : "virtual ") + told);
    }

    private boolean callGiving(String type, int height, int depth) {
        for (Sign s : one(2) ? fixed : virtual) {
            if (s.type.equals(type) && one(2)) {
                call(s, height, depth - 1);
                return true;
            }
        }
        return false;
    }

    private void number(int height, int depth) {
        if (depth > 0 && height < 6 && budget > 3 && numberOf(height, depth)) {
            return;
        }
        int k = local("int");
        put(k >= 0 && one(2) ? "load " + k : "push " + (r.nextInt(6) - 1));
    }

    private boolean numberOf(int height, int depth) {
        switch (r.nextInt(9)) {
            case 0:
                number(height, depth - 1);
                number(height + 1, depth - 1);
                put(of("add", "sub", "mul", "div", "rem", "and", "or", "xor", "shl", "shr"));
                return true;
            case 1:
                number(height, depth - 1);
                put("neg");
                return true;
            case 2: return fieldOf("int", false, height, depth);
            case 3: return fieldOf("int", true, height, depth);
            case 4:
                reference("Object", height, depth - 1);
                put("is " + of(of(types), "Runnable", "int[]"));
                return true;
            case 5:
                reference(of("Object[]", "int[]"), height, depth - 1);
                put("length");
                return true;
            case 6:
                reference("int[]", height, depth - 1);
                number(height + 1, depth - 1);
                put("element");
                return true;
            case 7: return callGiving("int", height, depth);
            default: return false;
        }
    }

    private boolean fieldOf(String type, boolean own, int height, int depth) {
        for (String[] f : own ? fields : statics) {
            boolean fits = type.equals("int") ? f[2].equals("int") : !f[2].equals("int") && below(f[2], type);
            if (fits && one(2)) {
                if (own) {
                    reference(f[0], height, depth - 1);
                }
                put((own ? "get " : "getstatic ") + f[0] + "." + f[1]);
                return true;
            }
        }
        return false;
    }

    private void reference(String type, int height, int depth) {
        boolean some = budget > 2 && height < 6 && depth > 0 && referenceOf(type, height, depth);
        if (!some) {
            simple(type, height);
        }
    }

    private boolean referenceOf(String type, int height, int depth) {
        boolean any = type.equals("Object") || one(3);
        switch (r.nextInt(13)) {
            case 3: return fieldOf(type, false, height, depth);
            case 4: return fieldOf(type, true, height, depth);
            case 5:
                reference("Object", height, depth - 1);
                break;
            case 6:
                if (!any || !callGiving("Object", height, depth)) {
                    return false;
                }
                break;
            case 7:
                reference("Object[]", height, depth - 1);
                number(height + 1, 1);
                put("element");
                break;
            case 8: return lone.containsKey(type) && lambda(type, height, depth) || type.equals("Object") && lambda("Runnable", height, depth);
            case 9:
                if (below("Class", type)) {
                    aClass();
                }
                return below("Class", type);
            case 10:
                if (any) {
                    aClass();
                    put("virtual Object Class.newInstance()");
                    break;
                }
                return false;
            case 11:
                if (below("Method", type)) {
                    aMethod();
                }
                return below("Method", type);
            case 12:
                if (any) {
                    aMethod();
                    reference("Object", height + 1, depth - 1);
                    put("virtual Object Method.invoke(Object)");
                    break;
                }
                return false;
            default: return false;
        }
        if (!type.equals("Object")) {
            put("cast " + type);
        }
        return true;
    }

    private void aClass() {
        put("string \"" + (one(8) ? "Nope" : one(6) ? "Thread" : of(names)) + "\"");
        put("call Class Class.named(String)");
    }

    private void aMethod() {
        boolean main = one(2);
        if (main) {
            put("string \"M\"");
            put("call Class Class.named(String)");
        } else {
            aClass();
        }
        put("string \"" + (main ? of("s_", "main", "s_") : of("r", "run", "h", "s_", "main", "<init>", "x")) + "\"");
        put("virtual Method Class.find(String)");
    }

    private boolean lambda(String type, int height, int depth) {
        Sign made = lone.get(type);
        if (made == null) {
            return false;
        }
        for (int tries = 0; tries < 6; tries++) {
            Sign s = of(fixed);
            int more = s.params.size() - made.params.size();
            if (more >= 0 && s.type.equals(made.type) && s.params.subList(more, s.params.size()).equals(made.params)) {
                for (int k = 0; k < more; k++) {
                    value(s.params.get(k), height + k, depth - 1);
                }
                put("lambda " + type + " " + s.told());
                return true;
            }
        }
        return false;
    }

    /** A local, a new one, null. */
    private void simple(String type, int height) {
        List<Integer> all = new ArrayList<>();
        for (int k = 0; k < 10; k++) {
            if (locals[k] != null && !locals[k].equals("?") && !locals[k].equals("int") && below(locals[k], type)) {
                all.add(k);
            }
        }
        if (!all.isEmpty() && one(2)) {
            put("load " + of(all));
        } else if (type.endsWith("[]")) {
            put("push " + r.nextInt(4));
            put("array " + (type.equals("Object[]") && one(3) ? "C0" : type.substring(0, type.length() - 2)));
        } else if (type.equals("String")) {
            put("string \"" + of(names) + "\"");
        } else {
            made(type, height);
        }
    }

    private void made(String type, int height) {
        List<String> all = new ArrayList<>();
        for (String c : names) {
            if (!interfaces.contains(c) && !abstracts.contains(c) && below(c, type)) {
                all.add(c);
            }
        }
        for (String c : List.of("Object", "Thread", "Throwable", "Cast")) {
            if (below(c, type)) {
                all.add(c);
            }
        }
        if (all.isEmpty() || one(20)) {
            put("null");
            return;
        }
        String c = of(all);
        put("new " + c);
        if (below(c, "Thread") && one(3) && height < 5) {
            put("dup");
            if (!lambda("Runnable", height + 2, 1)) {
                put("null");
            }
            put("special void Thread.<init>(Runnable)");
        }
    }
}
