import java.util.ArrayList;
import java.util.List;

/** Makes texts of programs that mostly load, from a seed: threads, monitors, lambdas, reflection, thrown things. */
final class Maker {
    private long seed;
    private final StringBuilder body = new StringBuilder();
    private final List<String> classes = new ArrayList<>();
    private int labels;
    private int local;
    private int count;
    private boolean fixed;
    private boolean caught;
    private int catchCount;
    private final StringBuilder catches = new StringBuilder();

    Maker(long seed) {
        this.seed = seed * 2862933555777941757L + 3037000493L;
    }

    int pick(int n) {
        seed = seed * 6364136223846793005L + 1442695040888963407L;
        return (int) ((seed >>> 33) % n);
    }

    private String of(String... all) {
        return all[pick(all.length)];
    }

    private String cls() {
        return classes.get(pick(classes.size()));
    }

    String text() {
        StringBuilder text = new StringBuilder();
        int n = 2 + pick(3);
        text.append("class Boom extends Throwable { } ");
        text.append("interface F { abstract method Object f(Object); method Object g() { load 0; null; virtual Object F.f(Object); give; } } ");
        for (int k = 0; k < n; k++) {
            classes.add("A" + k);
        }
        for (int k = 0; k < n; k++) {
            text.append(pick(40) == 0 ? "excluded " : "").append("class A").append(k);
            if (k > 0 && pick(2) == 0) {
                text.append(" extends A").append(pick(k));
            }
            if (pick(4) == 0) {
                text.append(" implements F");
            }
            text.append(" { ");
            if (pick(2) == 0) {
                text.append(pick(4) == 0 ? "volatile " : "").append("field Object o").append(k).append("; ");
            }
            text.append("field int n").append(k).append("; static field A").append(k).append(" s").append(k).append("; ");
            if (pick(4) == 0) {
                text.append("static method void <clinit>() { ").append(lines(true, 2, "return;")).append("} ");
            }
            if (pick(2) == 0) {
                text.append("method void <init>() { ").append(lines(false, 1, "return;")).append("} ");
            }
            text.append(sync()).append("method void v() { ").append(lines(false, 3, "return;")).append("} ");
            if (pick(2) == 0) {
                text.append(sync()).append("method Object f(Object) { ").append(lines(false, 2, "load 1; give;")).append("} ");
            }
            text.append(sync()).append("static method void s() { ").append(lines(true, 6, "return;")).append("} ");
            text.append(sync()).append("static method void w(Object) { ").append(lines(true, 1, "return;")).append("} ");
            text.append(sync()).append("static method Object l(Object) { ").append(lines(true, 2, "load 0; give;")).append("} } ");
        }
        for (int k = 0; k < 2; k++) {
            text.append("class T").append(k).append(" extends ").append(k == 1 && pick(2) == 0 ? "T0" : "Thread").append(" { ");
            if (pick(4) > 0) {
                text.append(sync()).append("method void run() { ").append(lines(false, 8, "return;")).append("} ");
            }
            if (pick(3) == 0) {
                text.append(sync()).append("method void uncaught(Throwable) { ").append(lines(false, 2, "return;")).append("} ");
            }
            text.append("} ");
        }
        text.append("class Main { static field Object a; static field Object b; static field Object x; static field Object y; static field Thread t; static field int n; ");
        text.append("static volatile field int v; static field F q; static field Object[] r; ");
        if (pick(3) == 0) {
            text.append("static method void <clinit>() { ").append(lines(true, 3, "return;")).append("} ");
        }
        text.append(pick(6) == 0 ? "synchronized " : "").append("static method void main() { ");
        text.append("new Object; putstatic Main.a; new Object; putstatic Main.b; new T0; putstatic Main.t; ");
        text.append("new Object; putstatic Main.x; new Object; putstatic Main.y; ");
        for (int k = 0; k < n; k++) {
            if (pick(4) > 0) {
                text.append("new A" + k + "; putstatic A" + k + ".s" + k + "; ");
            }
        }
        for (int k = pick(4); k > 0; k--) {
            text.append(thread()).append(" dup; putstatic Main.t; virtual void Thread.start(); ");
        }
        boolean kept = pick(3) == 0;
        String last = "return;";
        if (kept) {
            text.append(of("new T0;", "new T1;", "new Thread; dup; lambda Runnable void " + cls() + ".s(); special void Thread.<init>(Runnable);")).append(" store 1; ");
            text.append(pick(3) == 0 ? "getstatic Main.n; pop; " : "call void " + cls() + ".s(); ").append("load 1; virtual void Thread.start(); ");
            last = of("", "getstatic Main.n; ifeq Z;") + " load 1; virtual void Thread.join(); " + of("getstatic Main.n; pop;", "call void " + cls() + ".s();", "push 1; putstatic Main.n;") + " Z: return;";
        }
        text.append(lines(true, kept ? 3 : 8, last)).append("} } ");
        return text.toString();
    }

    private String sync() {
        return pick(4) == 0 ? "synchronized " : "";
    }

    private String lines(boolean fixed, int most, String last) {
        body.setLength(0);
        catches.setLength(0);
        this.fixed = fixed;
        catchCount = 0;
        local = 3;
        count = 0;
        int n = pick(most + 1);
        if (pick(5) == 0) {
            both(0);
        }
        for (int k = 0; k < n; k++) {
            if (pick(10) < 6 && catchCount < 8) {
                guarded(0);
            } else {
                line(0);
            }
        }
        String made = body.toString() + last + " " + catches;
        return made;
    }

    private void put(String what) {
        body.append(what).append(' ');
        for (int k = 0; k < what.length(); k++) {
            count += what.charAt(k) == ';' ? 1 : 0;
        }
    }

    private String label() {
        return "L" + labels++;
    }

    /** A reference of any class. */
    private String some() {
        switch (pick(9)) {
            case 0: return "null;";
            case 1: return "new Object;";
            case 2: return "new " + cls() + ";";
            case 3: return "getstatic Main.a;";
            case 4: return "getstatic Main.b;";
            case 5: return fixed ? "getstatic Main.t;" : "load 0;";
            case 6: return "string \"" + cls() + "\"; call Class Class.named(String);";
            case 7: return "getstatic Main.q;";
            default: String c = cls(); return "getstatic " + c + ".s" + c.substring(1) + ";";
        }
    }

    private String lock() {
        switch (pick(8)) {
            case 0: return "getstatic Main.b;";
            case 1: return some();
            case 2:
            case 3: return "getstatic Main.a;";
            case 4: return "getstatic Main.y;";
            default: return "getstatic Main.x;";
        }
    }

    private String thread() {
        switch (pick(5)) {
            case 0: return "new T0;";
            case 1: return "new T1;";
            case 2: return "new Thread; dup; lambda Runnable void " + cls() + ".s(); special void Thread.<init>(Runnable);";
            default: return "getstatic Main.t;";
        }
    }

    private void line(int depth) {
        if (count > 70) {
            return;
        }
        String c = cls();
        int what = pick(depth < 2 ? 26 : 19);
        switch (caught && what > 18 && what < 22 ? what - 10 : what) {
            case 0: put(some() + " putstatic Main." + of("a", "b") + ";"); break;
            case 1: put("new " + c + "; putstatic " + c + ".s" + c.substring(1) + ";"); break;
            case 2: put("getstatic " + c + ".s" + c.substring(1) + "; push " + pick(9) + "; put " + c + ".n" + c.substring(1) + ";"); break;
            case 3: put("getstatic " + c + ".s" + c.substring(1) + "; get " + c + ".n" + c.substring(1) + "; call void Out.print(int);"); break;
            case 4: put("getstatic Main.n; push 1; add; putstatic Main.n;"); break;
            case 5: put(pick(2) == 0 ? "getstatic Main.v; pop;" : "push 1; putstatic Main.v;"); break;
            case 6: put(thread() + " dup; putstatic Main.t; virtual void Thread.start();"); break;
            case 7: put("getstatic Main.t; virtual void Thread." + of("start", "join", "join") + "();"); break;
            case 8: put(thread() + " call void Runtime.hook(Thread);"); break;
            case 9: put("call void " + c + ".s();"); break;
            case 10: put(of("new " + c + ";", "getstatic " + c + ".s" + c.substring(1) + ";") + " virtual void " + c + ".v();"); break;
            case 11: put("new " + c + "; dup; special void " + c + ".<init>(); putstatic Main." + of("a", "b") + ";"); break;
            case 12: put(pick(2) == 0 ? "lambda F Object " + c + ".l(Object); putstatic Main.q;"
                : some() + " lambda Runnable void " + c + ".w(Object); virtual void Runnable.run();"); break;
            case 13: put("getstatic Main.q; " + (pick(2) == 0 ? "virtual Object F.g();" : some() + " virtual Object F.f(Object);") + " putstatic Main." + of("a", "b") + ";"); break;
            case 14: put("string \"" + of(c, c, "Nope", "T0", "F") + "\"; call Class Class.named(String); virtual Object Class.newInstance(); putstatic Main." + of("a", "b") + ";"); break;
            case 15: put("string \"" + of(c, "Main", "T1", "F") + "\"; call Class Class.named(String); string \"" + of("v", "s", "v", "g", "run") + "\"; virtual Method Class.find(String); " + some() + " virtual Object Method.invoke(Object); pop;"); break;
            case 16: put("push " + pick(3) + "; array Object; dup; push " + pick(3) + "; " + some() + " setelement; putstatic Main.r;"); break;
            case 17: put("getstatic Main.r; push " + pick(2) + "; " + (pick(2) == 0 ? "element; putstatic Main.a;" : some() + " setelement;")); break;
            case 18:
                if (!fixed && pick(2) == 0) {
                    put("load 0; virtual void Object." + of("notify", "notifyAll", "wait") + "();");
                } else {
                    put("getstatic Main.a; virtual void Object." + of("notify", "notifyAll") + "();");
                }
                break;
            case 19:
            case 20:
            case 21: {
                int k = local++ % 7 + 3;
                if (pick(3) == 0) {
                    both(depth);
                    break;
                }
                put(lock() + " store " + k + "; load " + k + "; enter;");
                line(depth + 1);
                if (pick(3) == 0) {
                    put("load " + k + "; virtual void Object." + of("wait", "notify", "notifyAll") + "();");
                }
                line(depth + 1);
                put("load " + k + "; exit;");
                break;
            }
            case 22: {
                int k = local++ % 7 + 3;
                String l = label();
                put("push " + (1 + pick(3)) + "; store " + k + ";");
                put(l + ":");
                line(depth + 1);
                put("inc " + k + " -1; load " + k + "; ifgt " + l + ";");
                break;
            }
            case 23: {
                String l = label();
                put("getstatic Main.n; push " + pick(2) + "; " + of("cmpge ", "cmplt ") + l + ";");
                line(depth + 1);
                put(l + ":");
                break;
            }
            case 24: {
                if (catchCount < 8) {
                    guarded(depth + 1);
                }
                break;
            }
            default: {
                String l = label();
                put("getstatic Main.n; push " + pick(3) + "; cmpne " + l + "; new Boom; throw; " + l + ":");
                break;
            }
        }
    }

    /** Lines within a catch, without 53: the row of monitors is one for all of them. */
    private void guarded(int depth) {
        catchCount++;
        String from = label();
        put(from + ":");
        boolean was = caught;
        caught = true;
        line(depth);
        line(depth);
        caught = was;
        String to = label();
        String end = label();
        String handler = label();
        put("push 0; pop; " + to + ": goto " + end + "; " + handler + ": " + of("pop;", "putstatic Main.a;") + " " + end + ":");
        catches.append("catch ").append(of("Throwable", "Throwable", "Throwable", "Throwable", "Boom", "NullPointer", "Cast", "Monitor")).append(' ')
            .append(from).append(' ').append(to).append(' ').append(handler).append("; ");
    }

    /** Two monitors, one within the other, in one order or the other. */
    private void both(int depth) {
        int k = local++ % 7 + 3;
        int l = local++ % 7 + 3;
        boolean one = pick(2) == 0;
        put("getstatic Main." + (one ? "x" : "y") + "; store " + k + "; load " + k + "; enter; getstatic Main.n; push 1; add; putstatic Main.n; getstatic Main."
            + (one ? "y" : "x") + "; store " + l + "; load " + l + "; enter;");
        line(depth + 1);
        put("load " + l + "; exit; load " + k + "; exit;");
    }
}
