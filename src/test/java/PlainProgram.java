import java.util.ArrayList;
import java.util.Arrays;
import java.util.HashSet;
import java.util.List;
import java.util.Set;
import java.util.TreeSet;

/** The document once more, for tests alone, in plain lists and sets: tokens, grammar, links, the check. */
final class PlainProgram {
    static final String LIBRARY = "class Object { method void <init>() { return; } method void wait(); method void notify(); method void notifyAll(); }"
        + " interface Runnable { abstract method void run(); }"
        + " class String { } class Class { static method Class named(String); method Object newInstance(); method Method find(String); }"
        + " class Method { method Object invoke(Object); }"
        + " class Throwable { } class NullPointer extends Throwable { } class Arithmetic extends Throwable { } class Index extends Throwable { }"
        + " class Cast extends Throwable { } class Store extends Throwable { } class Size extends Throwable { } class Monitor extends Throwable { }"
        + " class State extends Throwable { } class NoClass extends Throwable { } class NoMethod extends Throwable { }"
        + " class Thread implements Runnable { field Runnable target; method void <init>() { return; }"
        + " method void <init>(Runnable) { load 0; load 1; put Thread.target; return; }"
        + " method void run() { load 0; get Thread.target; ifnull L; load 0; get Thread.target; virtual void Runnable.run(); L: return; }"
        + " method void uncaught(Throwable) { return; } method void start(); method void join(); }"
        + " class Out { static method void print(int); } class Runtime { static method void hook(Thread); }";
    static final List<String> OPS = Arrays.asList(("push string null load store inc add sub mul div rem neg and or xor shl shr pop dup under swap goto"
        + " ifeq ifne iflt ifge ifgt ifle cmpeq cmpne cmplt cmpge cmpgt cmple same other ifnull ifsome get put getstatic putstatic new array"
        + " element setelement length cast is virtual special call lambda enter exit throw return give").split(" "));
    static final Set<String> RESERVED = new HashSet<>(OPS);

    static {
        RESERVED.addAll(Arrays.asList(("int void abstract excluded class interface extends implements static volatile final"
            + " synchronized field method catch").split(" ")));
    }

    static final class Fault extends RuntimeException {
        private static final long serialVersionUID = 1L;
        final int number;
        final int place;

        Fault(int number, int place) {
            super(null, null, false, false);
            this.number = number;
            this.place = place;
        }
    }

    static final class Cls {
        int num;
        String name;
        int place;
        boolean iface;
        boolean abs;
        boolean excluded;
        String ext;
        int extPlace;
        List<String> impl = new ArrayList<>();
        List<Integer> implPlaces = new ArrayList<>();
        List<Fld> fields = new ArrayList<>();
        List<Meth> methods = new ArrayList<>();
        int firstMethod;
    }

    static final class Fld {
        int num;
        String name;
        int place;
        Cls cls;
        String type;
        Set<String> flags;
    }

    static final class Lab {
        String name;
        int place;
        int at;
    }

    static final class Catch {
        int place;
        String cls;
        String from;
        String to;
        String handler;
        int a;
        int b;
        int h;
    }

    static final class Meth {
        int num;
        String name;
        int place;
        Cls cls;
        String type;
        List<String> params;
        Set<String> flags;
        boolean lines;
        boolean nativ;
        int first;
        List<Ins> code = new ArrayList<>();
        List<Lab> labels = new ArrayList<>();
        List<Catch> catches = new ArrayList<>();

        boolean is(String flag) {
            return flags.contains(flag);
        }

        boolean isStatic() {
            return is("static");
        }
    }

    static final class Ins {
        int num;
        int idx;
        int op;
        int place;
        Meth m;
        int n;
        int n2;
        int string;
        String label;
        String type;
        String owner;
        String name;
        List<String> params;
        String face;
        // linked
        int target;
        Cls cls;
        Fld fld;
        Meth meth;
        Meth made;
        // checked
        int height = -1;
        List<Integer> row;
        List<Set<String>> kinds;
    }

    final List<Cls> classes = new ArrayList<>();
    final List<Fld> fields = new ArrayList<>();
    final List<Meth> methods = new ArrayList<>();
    final List<Ins> code = new ArrayList<>();
    final List<String> strings = new ArrayList<>();
    Meth main;
    int fault;
    int place = -1;

    PlainProgram(String text) {
        try {
            read(LIBRARY, true);
            read(text, false);
            link(text.length());
            for (Meth m : methods) {
                if (m.lines) {
                    check(m);
                }
            }
        } catch (Fault f) {
            fault = f.number;
            place = f.place;
        }
    }

    // ---- TOKENS

    private String src;
    private boolean lib;
    private int pos;
    private char kind;
    private int at;
    private String word;
    private long value;

    private static boolean letter(char c) {
        return c >= 'a' && c <= 'z' || c >= 'A' && c <= 'Z';
    }

    private static boolean digit(char c) {
        return c >= '0' && c <= '9';
    }

    private char look(int p) {
        return p < src.length() ? src.charAt(p) : 0;
    }

    /** kind: w, n, s, a sign, ! for a wrong one, $ for the end. */
    private void advance() {
        int p = pos;
        while (p < src.length()) {
            char c = src.charAt(p);
            if (c == '#') {
                while (p < src.length() && src.charAt(p) != 10) {
                    p++;
                }
            } else if (c == 9 || c == 10 || c == 13 || c == 32) {
                p++;
            } else {
                break;
            }
        }
        at = p;
        if (p >= src.length()) {
            kind = '$';
            at = src.length();
            pos = p;
            return;
        }
        char c = src.charAt(p);
        int q = p + 1;
        if (letter(c) || c == '_' || c == '<') {
            while (q < src.length() && (letter(look(q)) || digit(look(q)) || look(q) == '_' || look(q) == '>')) {
                q++;
            }
            kind = q - p > 24 ? '!' : 'w';
            word = src.substring(p, q);
        } else if (digit(c) || c == '-') {
            while (q < src.length() && digit(look(q))) {
                q++;
            }
            String n = src.substring(p, q);
            kind = 'n';
            if (n.equals("-")) {
                kind = '!';
            } else {
                java.math.BigInteger v = new java.math.BigInteger(n);
                if (v.bitLength() > 31) {
                    kind = '!';
                } else {
                    value = v.longValue();
                }
            }
        } else if (c == '"') {
            while (q < src.length() && look(q) >= 32 && look(q) <= 126 && look(q) != '"') {
                q++;
            }
            if (look(q) != '"' || q >= src.length() || q - p - 1 > 24) {
                kind = '!';
            } else {
                kind = 's';
                word = src.substring(p + 1, q);
                q++;
            }
        } else if ("{}()[];:,.".indexOf(c) >= 0) {
            kind = c;
        } else {
            kind = '!';
        }
        pos = q;
    }

    // ---- GRAMMAR

    private Fault cant() {
        return new Fault(kind == '!' ? 1 : 2, at);
    }

    private boolean is(String w) {
        return kind == 'w' && word.equals(w);
    }

    private boolean isName() {
        return kind == 'w' && !RESERVED.contains(word);
    }

    private void sign(char c) {
        if (kind != c || c == 'w') {
            throw cant();
        }
        advance();
    }

    private String name() {
        if (!isName()) {
            throw cant();
        }
        String w = word;
        advance();
        return w;
    }

    private int number() {
        if (kind != 'n') {
            throw cant();
        }
        if (letter(look(pos)) || look(pos) == '_') {
            throw new Fault(1, pos);
        }
        int v = (int) value;
        advance();
        return v;
    }

    private int count(boolean[] ops) {
        int n = 0;
        for (Ins i : code) {
            n += !inLibrary(i.m.cls) && ops[i.op] ? 1 : 0;
        }
        return n;
    }

    private boolean inLibrary(Cls c) {
        return c.num < 19;
    }

    private void read(String text, boolean library) {
        src = text;
        lib = library;
        pos = 0;
        advance();
        while (kind != '$') {
            readClass();
        }
    }

    private int spot() {
        return lib ? -1 : at;
    }

    private void readClass() {
        Cls c = new Cls();
        while (is("abstract") || is("excluded")) {
            c.abs |= is("abstract");
            c.excluded |= is("excluded");
            advance();
        }
        if (!is("class") && !is("interface")) {
            throw cant();
        }
        c.iface = is("interface");
        advance();
        if (!isName()) {
            throw cant();
        }
        if (!lib && classes.size() - 19 == 24) {
            throw new Fault(3, at);
        }
        c.num = classes.size();
        c.place = spot();
        c.name = word;
        c.firstMethod = methods.size();
        classes.add(c);
        advance();
        if (is("extends")) {
            advance();
            c.extPlace = spot();
            c.ext = name();
        }
        if (is("implements")) {
            do {
                advance();
                if (!isName()) {
                    throw cant();
                }
                if (c.impl.size() == 6) {
                    throw new Fault(3, at);
                }
                c.implPlaces.add(spot());
                c.impl.add(name());
            } while (kind == ',');
        }
        sign('{');
        while (kind != '}') {
            readMember(c);
        }
        advance();
    }

    private void readMember(Cls c) {
        Set<String> flags = new HashSet<>();
        while (is("static") || is("volatile") || is("final") || is("abstract") || is("synchronized")) {
            flags.add(word);
            advance();
        }
        if (is("field")) {
            advance();
            Fld f = new Fld();
            f.type = type();
            if (!isName()) {
                throw cant();
            }
            if (!lib && fields.size() - 1 == 39) {
                throw new Fault(3, at);
            }
            f.num = fields.size();
            f.place = spot();
            f.name = word;
            f.cls = c;
            f.flags = flags;
            fields.add(f);
            c.fields.add(f);
            advance();
            sign(';');
        } else if (is("method")) {
            advance();
            readMethod(c, flags);
        } else {
            throw cant();
        }
    }

    private boolean isType() {
        return isName() || is("int") || is("void");
    }

    private String type() {
        if (!isType()) {
            throw cant();
        }
        String t = word;
        advance();
        if (kind == '[') {
            advance();
            sign(']');
            t += "[]";
        }
        return t;
    }

    private List<String> types() {
        List<String> all = new ArrayList<>();
        sign('(');
        if (kind == ')') {
            advance();
            return all;
        }
        while (true) {
            if (isType() && all.size() == 6) {
                throw new Fault(3, at);
            }
            all.add(type());
            if (kind == ')') {
                advance();
                return all;
            }
            sign(',');
        }
    }

    private void readMethod(Cls c, Set<String> flags) {
        Meth m = new Meth();
        m.type = type();
        if (!isName()) {
            throw cant();
        }
        if (!lib && methods.size() - 17 == 100) {
            throw new Fault(3, at);
        }
        m.num = methods.size();
        m.place = spot();
        m.name = word;
        m.cls = c;
        m.flags = flags;
        m.first = code.size();
        methods.add(m);
        c.methods.add(m);
        advance();
        m.params = types();
        if (kind == ';') {
            m.nativ = lib && !flags.contains("abstract");
            advance();
            return;
        }
        sign('{');
        m.lines = true;
        while (kind != '}') {
            readLine(m);
        }
        advance();
    }

    private static boolean[] ops(int... some) {
        boolean[] all = new boolean[58];
        if (some.length == 0) {
            Arrays.fill(all, true);
        }
        for (int op : some) {
            all[op] = true;
        }
        return all;
    }

    private void readLine(Meth m) {
        if (isName()) {
            Lab l = new Lab();
            l.place = spot();
            l.name = name();
            l.at = m.code.size();
            m.labels.add(l);
            sign(':');
            return;
        }
        if (is("catch")) {
            if (m.catches.size() == 8) {
                throw new Fault(3, at);
            }
            Catch k = new Catch();
            k.place = spot();
            m.catches.add(k);
            advance();
            k.cls = name();
            k.from = name();
            k.to = name();
            k.handler = name();
            sign(';');
            return;
        }
        int op = kind == 'w' ? OPS.indexOf(word) : -1;
        if (op < 0) {
            throw cant();
        }
        if (!lib && (count(ops()) == 1000 || m.code.size() == 120
            || (op == 42 || op == 43 || op == 52) && count(ops(42, 43, 52)) == 120)) {
            throw new Fault(3, at);
        }
        Ins i = new Ins();
        i.op = op;
        i.place = spot();
        i.m = m;
        i.num = code.size();
        i.idx = m.code.size();
        code.add(i);
        m.code.add(i);
        advance();
        switch (op) {
            case 0: case 3: case 4:
                i.n = number();
                break;
            case 5:
                i.n = number();
                i.n2 = number();
                break;
            case 1:
                if (kind != 's') {
                    throw cant();
                }
                if (!strings.contains(word) && strings.size() == 32) {
                    throw new Fault(3, at);
                }
                if (!strings.contains(word)) {
                    strings.add(word);
                }
                i.string = strings.indexOf(word);
                advance();
                break;
            case 38: case 39: case 40: case 41:
                i.owner = name();
                sign('.');
                i.name = name();
                break;
            case 42:
                i.owner = name();
                break;
            case 43: case 47: case 48:
                i.type = type();
                break;
            case 52:
                i.face = name();
                readCall(i);
                break;
            case 49: case 50: case 51:
                readCall(i);
                break;
            default:
                if (op >= 21 && op <= 37) {
                    i.label = name();
                }
                break;
        }
        sign(';');
    }

    private void readCall(Ins i) {
        i.type = type();
        i.owner = name();
        sign('.');
        i.name = name();
        i.params = types();
    }

    // ---- LINKS

    Cls cls(String name) {
        for (Cls c : classes) {
            if (c.name.equals(name)) {
                return c;
            }
        }
        return null;
    }

    Cls up(Cls c) {
        if (c.num == 0) {
            return null;
        }
        return c.ext == null || c.iface ? classes.get(0) : cls(c.ext);
    }

    static boolean isArray(String type) {
        return type.endsWith("[]");
    }

    static String base(String type) {
        return isArray(type) ? type.substring(0, type.length() - 2) : type;
    }

    boolean below(String a, String b) {
        if (a.equals(b) || b.equals("Object")) {
            return true;
        }
        if (isArray(a) || isArray(b)) {
            return isArray(a) && isArray(b) && !base(a).equals("int") && !base(b).equals("int") && below(base(a), base(b));
        }
        Cls c = cls(a);
        if (c == null) {
            return false;
        }
        Cls u = up(c);
        if (u != null && below(u.name, b)) {
            return true;
        }
        for (String d : c.impl) {
            if (below(d, b)) {
                return true;
            }
        }
        return false;
    }

    private boolean has(Meth m, String name, List<String> params) {
        return m.name.equals(name) && norm(m.params).equals(norm(params));
    }

    private List<String> norm(List<String> types) {
        List<String> all = new ArrayList<>();
        for (String t : types) {
            all.add(norm(t));
        }
        return all;
    }

    private String norm(String t) {
        String b = base(t);
        boolean known = b.equals("int") || b.equals("void") || cls(b) != null;
        return known ? t : isArray(t) ? "?[]" : "?";
    }

    private Meth own(Cls c, String name, List<String> params) {
        for (Meth m : c.methods) {
            if (has(m, name, params)) {
                return m;
            }
        }
        return null;
    }

    Meth select(String type, String name, List<String> params) {
        Cls c = isArray(type) ? classes.get(0) : cls(type);
        for (Cls d = c; d != null; d = up(d)) {
            Meth m = own(d, name, params);
            if (m != null && !m.isStatic()) {
                return m.is("abstract") ? null : m;
            }
        }
        List<Cls> these = new ArrayList<>();
        for (Cls d : classes) {
            if (d.iface && below(c.name, d.name)) {
                Meth m = own(d, name, params);
                if (m != null && !m.isStatic() && !m.is("abstract")) {
                    these.add(d);
                }
            }
        }
        List<Cls> least = new ArrayList<>();
        for (Cls d : these) {
            boolean other = false;
            for (Cls e : these) {
                other |= e != d && below(e.name, d.name);
            }
            if (!other) {
                least.add(d);
            }
        }
        return least.size() == 1 ? own(least.get(0), name, params) : null;
    }

    Meth find(Cls c, String name, List<String> params) {
        for (Cls d = c; d != null; d = up(d)) {
            Meth m = own(d, name, params);
            if (m != null) {
                return m;
            }
        }
        for (Cls d : classes) {
            if (d.iface && below(c.name, d.name) && own(d, name, params) != null) {
                return own(d, name, params);
            }
        }
        return null;
    }

    private Fld findField(Cls c, String name) {
        for (Cls d = c; d != null; d = up(d)) {
            for (Fld f : d.fields) {
                if (f.name.equals(name)) {
                    return f;
                }
            }
        }
        return null;
    }

    private final TreeSet<Integer> wrong = new TreeSet<>();

    private void wrongIf(boolean is, int where) {
        if (is) {
            wrong.add(where);
        }
    }

    private void settle(int number) {
        if (!wrong.isEmpty()) {
            throw new Fault(number, wrong.first());
        }
    }

    private boolean leadsTo(Cls from, Cls to, Set<Cls> seen) {
        List<String> names = new ArrayList<>(from.impl);
        if (from.ext != null) {
            names.add(from.ext);
        }
        for (String n : names) {
            Cls d = cls(n);
            if (d == to) {
                return true;
            }
            if (d != null && seen.add(d) && leadsTo(d, to, seen)) {
                return true;
            }
        }
        return false;
    }

    private void link(int end) {
        for (Cls c : classes) {
            wrongIf(cls(c.name) != c, c.place);
            if (c.ext != null) {
                Cls d = cls(c.ext);
                wrongIf(d == null || d.iface || c.iface, c.extPlace);
            }
            for (int k = 0; k < c.impl.size(); k++) {
                Cls d = cls(c.impl.get(k));
                wrongIf(d == null || !d.iface, c.implPlaces.get(k));
            }
            wrongIf(leadsTo(c, c, new HashSet<>()), c.place);
            wrongIf(c.iface && c.abs, c.place);
        }
        settle(10);
        for (Cls c : classes) {
            linkMembers(c);
        }
        settle(11);
        for (Meth m : methods) {
            linkLines(m);
        }
        settle(12);
        for (Cls c : classes) {
            boolean out = inLibrary(c);
            for (Cls d = c; d != null; d = up(d)) {
                out |= d.excluded;
            }
            Meth m = own(c, "main", new ArrayList<>());
            if (!out && main == null && m != null && m.isStatic() && m.type.equals("void")) {
                main = m;
            }
        }
        wrongIf(main == null, end);
        settle(13);
    }

    private boolean noType(String t, boolean mayBeVoid) {
        if (base(t).equals("void")) {
            return isArray(t) || !mayBeVoid;
        }
        return !base(t).equals("int") && cls(base(t)) == null;
    }

    private void linkMembers(Cls c) {
        Set<String> before = new HashSet<>();
        for (Fld f : c.fields) {
            wrongIf(noType(f.type, false), f.place);
            wrongIf(!before.add(f.name), f.place);
            wrongIf(f.name.startsWith("<"), f.place);
            wrongIf(f.flags.contains("abstract") || f.flags.contains("synchronized"), f.place);
            wrongIf(f.flags.contains("final") && f.flags.contains("volatile"), f.place);
            wrongIf(c.iface && !f.flags.contains("static"), f.place);
        }
        for (Meth m : c.methods) {
            wrongIf(noType(m.type, true), m.place);
            for (String t : m.params) {
                wrongIf(noType(t, false), m.place);
            }
            wrongIf(own(c, m.name, m.params) != m, m.place);
            boolean gives = !m.type.equals("void");
            if (m.name.equals("<init>")) {
                wrongIf(m.isStatic() || m.is("abstract") || gives || c.iface || m.is("synchronized"), m.place);
            } else if (m.name.equals("<clinit>")) {
                wrongIf(!m.isStatic() || gives || !m.params.isEmpty() || m.is("synchronized"), m.place);
            } else {
                wrongIf(m.name.startsWith("<"), m.place);
            }
            wrongIf(m.is("volatile") || m.is("final"), m.place);
            wrongIf(!m.lines && !m.nativ && !m.is("abstract"), m.place);
            wrongIf(m.is("abstract") && (m.lines || m.isStatic() || m.is("synchronized")), m.place);
            wrongIf(m.is("abstract") && !c.abs && !c.iface, m.place);
            for (Cls d : classes) {
                if (d != c && below(c.name, d.name) && !m.isStatic() && !m.name.startsWith("<")) {
                    for (Meth n : d.methods) {
                        wrongIf(!n.isStatic() && has(n, m.name, m.params) && !norm(n.type).equals(norm(m.type)), m.place);
                    }
                }
            }
        }
        List<Meth> above = new ArrayList<>();
        for (Cls d : classes) {
            if (d != c && below(c.name, d.name)) {
                above.addAll(d.methods);
            }
        }
        for (Meth m : above) {
            for (Meth n : above) {
                wrongIf(m.cls != n.cls && !m.isStatic() && !n.isStatic() && !m.name.startsWith("<") && has(m, n.name, n.params)
                    && !norm(m.type).equals(norm(n.type)), c.place);
            }
        }
    }

    private int label(Meth m, String name) {
        for (Lab l : m.labels) {
            if (l.name.equals(name)) {
                return l.at;
            }
        }
        return -1;
    }

    private void linkLines(Meth m) {
        Set<String> told = new HashSet<>();
        for (Lab l : m.labels) {
            wrongIf(!told.add(l.name), l.place);
        }
        for (Catch k : m.catches) {
            k.a = label(m, k.from);
            k.b = label(m, k.to);
            k.h = label(m, k.handler);
            boolean fine = cls(k.cls) != null && below(k.cls, "Throwable");
            wrongIf(!fine || k.a < 0 || k.b < 0 || k.h < 0 || k.a >= k.b, k.place);
        }
        for (Ins i : m.code) {
            wrongIf(isWrong(i), i.place);
        }
    }

    private boolean isWrong(Ins i) {
        switch (i.op) {
            case 3: case 4: case 5:
                return i.n < 0 || i.n > 9;
            case 38: case 39: case 40: case 41: {
                Cls c = cls(i.owner);
                i.fld = c == null ? null : findField(c, i.name);
                if (i.fld == null || i.fld.flags.contains("static") != (i.op >= 40)) {
                    return true;
                }
                boolean writes = i.op == 39 || i.op == 41;
                String where = i.op == 39 ? "<init>" : "<clinit>";
                return writes && i.fld.flags.contains("final") && !(i.m.cls == i.fld.cls && i.m.name.equals(where));
            }
            case 42:
                i.cls = cls(i.owner);
                return i.cls == null || i.cls.iface || i.cls.abs;
            case 43:
                return isArray(i.type) || noType(i.type, false);
            case 47: case 48:
                return noType(i.type, false) || i.type.equals("int");
            case 49: case 50: case 51: case 52:
                return isCallWrong(i);
            default:
                if (i.label != null) {
                    i.target = label(i.m, i.label);
                    return i.target < 0;
                }
                return false;
        }
    }

    private boolean isCallWrong(Ins i) {
        Cls c = cls(i.owner);
        if (c == null) {
            return true;
        }
        for (String t : i.params) {
            if (noType(t, false)) {
                return true;
            }
        }
        Meth m = find(c, i.name, i.params);
        i.meth = m;
        if (m == null || !m.type.equals(i.type)) {
            return true;
        }
        if (i.op != 50 && i.name.startsWith("<")) {
            return true;
        }
        switch (i.op) {
            case 49: return m.isStatic();
            case 50: return m.isStatic() || m.is("abstract") || i.m.isStatic() && !i.name.equals("<init>");
            case 51: return !m.isStatic();
            default:
                if (!m.isStatic() || m.nativ) {
                    return true;
                }
                Cls f = cls(i.face);
                if (f == null || !f.iface) {
                    return true;
                }
                i.cls = f;
                i.made = null;
                for (Meth a : methods) {
                    if (a.is("abstract") && below(f.name, a.cls.name) && select(f.name, a.name, a.params) == null) {
                        if (i.made != null && !(has(i.made, a.name, a.params))) {
                            return true;
                        }
                        i.made = a;
                    }
                }
                if (i.made == null) {
                    return true;
                }
                int more = m.params.size() - i.made.params.size();
                return more < 0 || !m.params.subList(more, m.params.size()).equals(i.made.params) || !m.type.equals(i.made.type);
        }
    }

    // ---- THE CHECK

    int takes(Ins i) {
        switch (i.op) {
            case 4: case 11: case 17: case 18: return 1;
            case 6: case 7: case 8: case 9: case 10: case 12: case 13: case 14: case 15: case 16: case 19: case 20: return 2;
            case 22: case 23: case 24: case 25: case 26: case 27: case 36: case 37: return 1;
            case 28: case 29: case 30: case 31: case 32: case 33: case 34: case 35: return 2;
            case 38: case 41: case 43: case 46: case 47: case 48: case 53: case 54: case 55: case 57: return 1;
            case 39: case 44: return 2;
            case 45: return 3;
            case 49: case 50: return 1 + i.meth.params.size();
            case 51: return i.meth.params.size();
            case 52: return i.meth.params.size() - i.made.params.size();
            default: return 0;
        }
    }

    int leaves(Ins i) {
        switch (i.op) {
            case 0: case 1: case 2: case 3: return 1;
            case 6: case 7: case 8: case 9: case 10: case 11: case 12: case 13: case 14: case 15: case 16: return 1;
            case 18: case 20: return 2;
            case 19: return 3;
            case 38: case 40: case 42: case 43: case 44: case 46: case 47: case 48: case 52: return 1;
            case 49: case 50: case 51: return i.meth.type.equals("void") ? 0 : 1;
            default: return 0;
        }
    }

    static boolean within(Catch k, int idx) {
        return idx >= k.a && idx < k.b;
    }

    /** Where an instruction goes on without 'catch'. */
    static List<Integer> goesOn(Ins i) {
        List<Integer> to = new ArrayList<>();
        if (i.op != 21 && i.op != 55 && i.op != 56 && i.op != 57) {
            to.add(i.idx + 1);
        }
        if (i.label != null) {
            to.add(i.target);
        }
        return to;
    }

    private void check(Meth m) {
        heights(m);
        sets(m);
        faultsOfSets(m);
    }

    private void heights(Meth m) {
        int n = m.code.size();
        int[] height = new int[n + 1];
        Arrays.fill(height, -1);
        List<List<Integer>> rows = new ArrayList<>();
        for (int k = 0; k <= n; k++) {
            rows.add(null);
        }
        boolean[] looked = new boolean[n + 1];
        height[0] = 0;
        rows.set(0, new ArrayList<>());
        while (true) {
            int k = 0;
            while (k <= n && (height[k] < 0 || looked[k])) {
                k++;
            }
            if (k > n) {
                break;
            }
            looked[k] = true;
            if (k == n) {
                throw new Fault(20, m.place);
            }
            Ins i = m.code.get(k);
            int after = height[k] - takes(i) + leaves(i);
            if (height[k] < takes(i) || after > 8) {
                throw new Fault(21, i.place);
            }
            List<Integer> row = rows.get(k);
            List<Integer> then = new ArrayList<>(row);
            if (i.op == 54 && row.isEmpty() || i.op == 53 && row.size() == 6) {
                throw new Fault(25, i.place);
            }
            if ((i.op == 56 || i.op == 57) && !row.isEmpty()) {
                throw new Fault(27, i.place);
            }
            if (i.op == 53) {
                then.add(k);
            } else if (i.op == 54) {
                then.remove(then.size() - 1);
            }
            for (int to : goesOn(i)) {
                come(i, to, n, after, then, height, rows);
            }
            for (Catch c : m.catches) {
                if (within(c, k)) {
                    come(i, c.h, n, 1, row, height, rows);
                }
            }
        }
        for (int k = 0; k < n; k++) {
            m.code.get(k).height = height[k];
            m.code.get(k).row = rows.get(k);
        }
    }

    private void come(Ins i, int to, int n, int h, List<Integer> row, int[] height, List<List<Integer>> rows) {
        if (to == n) {
            height[n] = 0;
            return;
        }
        if (height[to] >= 0 && height[to] != h) {
            throw new Fault(22, i.place);
        }
        if (height[to] >= 0 && !rows.get(to).equals(row)) {
            throw new Fault(26, i.place);
        }
        height[to] = h;
        rows.set(to, row);
    }

    private static Set<String> set(String... all) {
        return new HashSet<>(Arrays.asList(all));
    }

    private void sets(Meth m) {
        for (Ins i : m.code) {
            if (i.height >= 0) {
                i.kinds = new ArrayList<>();
                for (int k = 0; k < 10 + i.height; k++) {
                    i.kinds.add(new HashSet<>());
                }
            }
        }
        List<String> first = new ArrayList<>();
        if (!m.isStatic()) {
            first.add(m.cls.name);
        }
        first.addAll(m.params);
        for (int k = 0; k < 10; k++) {
            m.code.get(0).kinds.get(k).add(k < first.size() ? first.get(k) : "NOTHING");
        }
        boolean more = true;
        while (more) {
            more = false;
            for (Ins i : m.code) {
                if (i.height < 0) {
                    continue;
                }
                List<Set<String>> left = leaves(i, i.kinds);
                for (int to : goesOn(i)) {
                    for (int k = 0; k < left.size(); k++) {
                        more |= m.code.get(to).kinds.get(k).addAll(left.get(k));
                    }
                }
                for (Catch c : m.catches) {
                    if (within(c, i.idx)) {
                        for (int k = 0; k < 10; k++) {
                            more |= m.code.get(c.h).kinds.get(k).addAll(i.kinds.get(k));
                        }
                        more |= m.code.get(c.h).kinds.get(10).add(c.cls);
                    }
                }
            }
        }
    }

    private List<Set<String>> leaves(Ins i, List<Set<String>> before) {
        List<Set<String>> s = new ArrayList<>(before);
        List<Set<String>> taken = new ArrayList<>();
        for (int k = takes(i); k > 0; k--) {
            taken.add(0, s.remove(s.size() - 1));
        }
        switch (i.op) {
            case 0: s.add(set("int")); break;
            case 1: s.add(set("String")); break;
            case 2: s.add(set("NULL")); break;
            case 3: s.add(before.get(i.n)); break;
            case 4: s.set(i.n, taken.get(0)); break;
            case 18: s.add(taken.get(0)); s.add(taken.get(0)); break;
            case 19: s.add(taken.get(1)); s.add(taken.get(0)); s.add(taken.get(1)); break;
            case 20: s.add(taken.get(1)); s.add(taken.get(0)); break;
            case 38: case 40: s.add(set(i.fld.type)); break;
            case 42: s.add(set(i.owner)); break;
            case 43: s.add(set(i.type + "[]")); break;
            case 44:
                Set<String> elements = new HashSet<>();
                for (String k : taken.get(0)) {
                    if (isArray(k)) {
                        elements.add(base(k));
                    }
                }
                s.add(elements);
                break;
            case 47: s.add(set(i.type)); break;
            case 49: case 50: case 51:
                if (!i.type.equals("void")) {
                    s.add(set(i.type));
                }
                break;
            case 52: s.add(set(i.face)); break;
            default:
                if (leaves(i) == 1) {
                    s.add(set("int"));
                }
                break;
        }
        return s;
    }

    private boolean all(Set<String> kinds, String wanted) {
        for (String k : kinds) {
            boolean fine = wanted.equals("int") ? k.equals("int")
                : k.equals("NULL") || !k.equals("int") && !k.equals("NOTHING") && below(k, wanted);
            if (!fine) {
                return false;
            }
        }
        return true;
    }

    private static boolean references(Set<String> kinds) {
        return !kinds.contains("int") && !kinds.contains("NOTHING");
    }

    private static boolean arrays(Set<String> kinds) {
        boolean ints = false;
        boolean others = false;
        for (String k : kinds) {
            if (k.equals("int[]")) {
                ints = true;
            } else if (isArray(k)) {
                others = true;
            } else if (!k.equals("NULL")) {
                return false;
            }
        }
        return !(ints && others);
    }

    private boolean isFine(Ins i) {
        int from = 10 + i.height - takes(i);
        List<Set<String>> t = i.kinds.subList(from, i.kinds.size());
        switch (i.op) {
            case 3: return !i.kinds.get(i.n).contains("NOTHING");
            case 5: return all(i.kinds.get(i.n), "int");
            case 34: case 35: return references(t.get(0)) && references(t.get(1));
            case 36: case 37: case 47: case 48: case 53: case 54: return references(t.get(0));
            case 38: return all(t.get(0), i.owner);
            case 39: return all(t.get(0), i.owner) && all(t.get(1), i.fld.type);
            case 41: return all(t.get(0), i.fld.type);
            case 44: return arrays(t.get(0)) && all(t.get(1), "int");
            case 45:
                if (!arrays(t.get(0)) || !all(t.get(1), "int")) {
                    return false;
                }
                if (t.get(0).contains("int[]")) {
                    return all(t.get(2), "int");
                }
                for (String k : t.get(0)) {
                    if (isArray(k)) {
                        return references(t.get(2));
                    }
                }
                return true;
            case 46: return arrays(t.get(0));
            case 49: case 50:
                if (!all(t.get(0), i.owner)) {
                    return false;
                }
                for (int k = 0; k < i.meth.params.size(); k++) {
                    if (!all(t.get(k + 1), i.meth.params.get(k))) {
                        return false;
                    }
                }
                return true;
            case 51: case 52:
                for (int k = 0; k < t.size(); k++) {
                    if (!all(t.get(k), i.meth.params.get(k))) {
                        return false;
                    }
                }
                return true;
            case 55: return all(t.get(0), "Throwable");
            case 57: return i.m.type.equals("void") || all(t.get(0), i.m.type);
            case 4: case 17: case 18: case 19: case 20: return true;
            default:
                for (Set<String> k : t) {
                    if (!all(k, "int")) {
                        return false;
                    }
                }
                return true;
        }
    }

    private void faultsOfSets(Meth m) {
        for (Ins i : m.code) {
            if (i.height < 0) {
                continue;
            }
            if (!isFine(i)) {
                throw new Fault(23, i.place);
            }
            if (i.op == 56 && !m.type.equals("void") || i.op == 57 && m.type.equals("void")) {
                throw new Fault(24, i.place);
            }
        }
    }

    // ---- ways

    List<Integer> next(Ins i) {
        List<Integer> to = new ArrayList<>(goesOn(i));
        for (Catch c : i.m.catches) {
            if (within(c, i.idx)) {
                to.add(c.h);
            }
        }
        return to;
    }

    /** Whether a way of one step or more leads from one to the other in its method. */
    boolean way(Ins from, Ins to) {
        boolean[] seen = new boolean[from.m.code.size()];
        List<Integer> open = new ArrayList<>();
        if (from.height < 0) {
            return false;
        }
        open.addAll(next(from));
        while (!open.isEmpty()) {
            int k = open.remove(open.size() - 1);
            if (!seen[k]) {
                seen[k] = true;
                open.addAll(next(from.m.code.get(k)));
            }
        }
        return seen[to.idx];
    }

    /** What an instruction names, as instruction() tells it. */
    int names(Ins i) {
        switch (i.op) {
            case 0: case 3: case 4: case 5: return i.n;
            case 1: return i.string;
            case 38: case 39: case 40: case 41: return i.fld.num;
            case 42: return i.cls.num;
            case 43: return typeNumber(i.type + "[]");
            case 47: case 48: return typeNumber(i.type);
            case 49: case 50: case 51: case 52: return i.meth.num;
            default: return i.label != null ? i.m.first + i.target : 0;
        }
    }

    int typeNumber(String type) {
        if (!isArray(type)) {
            return cls(type).num;
        }
        return type.equals("int[]") ? -2 : -2 - (cls(base(type)).num + 1);
    }
}
