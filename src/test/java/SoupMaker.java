import java.util.ArrayList;
import java.util.Arrays;
import java.util.Collections;
import java.util.List;
import java.util.Random;

/** Makes rows of classes and members, from a seed, in which something is often wrong: for faults 10 to 13. */
final class SoupMaker {
    private static final List<String> NAMES = Arrays.asList("A B C D E F I J K".split(" "));
    private static final String[] LABELS = {"goto L; L: ", "push 1; ifeq M; M: ", "M: ", "L: ", "catch Throwable L M L; ", "nope: "};

    private final Random r;
    /** How much is wrong: 0 hardly anything. */
    private final int wrong;
    private final int wild;
    private final StringBuilder b = new StringBuilder();
    private final List<String> told;
    private final List<String> classes = new ArrayList<>();
    private final List<String> faces = new ArrayList<>();
    // of the class that is made: whether it may have abstract methods, the names of its members
    private boolean open;
    private final List<String> members = new ArrayList<>();

    SoupMaker(long seed) {
        r = new Random(seed * 991L + 3);
        wrong = Math.max(0, r.nextInt(5) - 2);
        wild = one(4) ? 1 : 100;
        List<String> all = new ArrayList<>(NAMES);
        Collections.shuffle(all, r);
        told = all.subList(0, 2 + r.nextInt(8));
    }

    private boolean one(int of) {
        return r.nextInt(of) == 0;
    }

    private String of(String... all) {
        return all[r.nextInt(all.length)];
    }

    private String of(List<String> all, String without) {
        return all.isEmpty() ? without : all.get(r.nextInt(all.size()));
    }

    String text() {
        for (String c : told) {
            oneClass(one(30 * wild) ? name() : c);
        }
        if (!one(20)) {
            b.append("class Z { static method void main() { ");
            body("void");
            b.append("} } ");
        }
        return b.toString();
    }

    private String name() {
        if (one(wrong > 1 ? 40 : 400)) {
            return of("X", "Nope");
        }
        return one(6) ? of("Object", "Runnable", "Thread", "Throwable", "String") : of(told, "Object");
    }

    private String type() {
        int k = r.nextInt(20);
        if (k < 10) {
            return k < 8 ? k > 5 && wrong > 0 && one(3) ? "void" : "int" : wrong > 0 && one(6) ? "void[]" : "int[]";
        }
        return k < 16 ? name() : name() + "[]";
    }

    private String flags(String... all) {
        StringBuilder some = new StringBuilder();
        for (String f : all) {
            some.append(one(wrong > 0 ? 8 : 300) ? f + " " : "");
        }
        return some.toString();
    }

    private void oneClass(String c) {
        boolean face = c.length() == 1 && c.charAt(0) >= 'I' ? !one(15 * wild) : one(15 * wild);
        open = face ? one(50 * wild) : one(4);
        b.append(one(20) ? "excluded " : "").append(open ? "abstract " : "").append(face ? "interface " : "class ").append(c);
        if (face ? one(40 * wild) : one(2)) {
            b.append(" extends ").append(one(12 * wild) ? name() : of(classes, "Object"));
        }
        if (one(2)) {
            b.append(" implements ");
            for (int k = r.nextInt(3); k >= 0; k--) {
                b.append(one(10 * wild) ? name() : face && one(4) ? "Runnable" : of(faces, "Runnable")).append(k > 0 ? ", " : "");
            }
        }
        (face ? faces : classes).add(c);
        open |= face;
        members.clear();
        b.append(" { ");
        for (int k = r.nextInt(7); k > 0; k--) {
            if (one(3)) {
                field(face);
            } else {
                method(face);
            }
        }
        b.append("} ");
    }

    private String fieldName() {
        return of("f", "g", "h", "k", "l") + r.nextInt(9);
    }

    /** Whether the class has a member of a name, and nothing is to be wrong. */
    private boolean isTwice(String name) {
        boolean is = wrong == 0 && members.contains(name);
        members.add(name);
        return is;
    }

    private void field(boolean face) {
        String name = one(wrong > 0 ? 30 : 500) ? "<init>" : fieldName();
        if (isTwice(name)) {
            return;
        }
        b.append(face && (wrong == 0 || !one(9)) || one(3) ? "static " : "").append(flags("volatile", "final", "abstract", "synchronized"));
        b.append("field ").append(type()).append(' ').append(name).append("; ");
    }

    private void method(boolean face) {
        String name = one(12) ? "<init>" : one(12) ? "<clinit>" : one(wrong > 0 ? 40 : 500) ? "<foo" : of("m", "n", "p", "run", "wait", "main");
        boolean usual = wrong == 0 || !one(8);
        boolean made = name.startsWith("<") && usual;
        boolean fixed = made ? name.equals("<clinit>") : one(4);
        boolean bare = !made && !fixed && (open || wrong > 0 && one(6)) && one(2);
        if (isTwice(name) || wrong == 0 && face && name.equals("<init>")) {
            return;
        }
        String type = made || usual && (name.equals("wait") || name.equals("run") || name.equals("m")) ? "void"
            : usual && name.equals("n") ? "int" : one(2) ? "void" : one(4) ? type() : of("int", "Object", "A");
        b.append(fixed ? "static " : "").append(bare ? "abstract " : "").append(flags("volatile", "final", "abstract", "synchronized", "static"));
        b.append("method ").append(type).append(' ').append(name).append('(');
        int n = name.equals("<clinit>") && usual || !one(4) ? 0 : r.nextInt(3);
        for (int k = 0; k < n; k++) {
            b.append(k > 0 ? ", " : "").append(type());
        }
        b.append(')');
        boolean other = one(wrong > 0 ? 20 : 400);
        if (bare != other) {
            b.append("; ");
        } else {
            b.append(" { ");
            body(type);
            b.append("} ");
        }
    }

    private void body(String type) {
        if (one(wrong > 0 ? 40 : 400)) {
            return;
        }
        for (int k = r.nextInt(wrong == 0 && !one(4) ? 1 : 4); k > 0; k--) {
            line();
        }
        b.append(type.equals("void") ? "return; " : type.equals("int") ? "push 1; give; " : one(9) ? "return; " : "null; give; ");
    }

    private void line() {
        String f = name() + "." + fieldName();
        String gives = of("void", "int", "Object") + " ";
        String m = name() + "." + of("m", "n", "p", "run", "main", "<init>", "wait") + "(); ";
        switch (r.nextInt(12)) {
            case 0: b.append("null; cast ").append(type()).append("; pop; "); break;
            case 1: b.append("null; is ").append(type()).append("; pop; "); break;
            case 2: b.append("push 1; array ").append(one(3) ? "int" : one(9) ? type() : name()).append("; pop; "); break;
            case 3: b.append("new ").append(name()).append("; pop; "); break;
            case 4: b.append("getstatic ").append(f).append("; pop; "); break;
            case 5: b.append("null; get ").append(f).append("; pop; "); break;
            case 6: b.append("null; putstatic ").append(f).append("; "); break;
            case 7: b.append("null; null; put ").append(f).append("; "); break;
            case 8: b.append("null; ").append(of("virtual ", "special ")).append(gives).append(m); break;
            case 9: b.append("call ").append(gives).append(m); break;
            case 10: b.append("lambda ").append(one(2) ? of(faces, "Runnable") : name()).append(' ').append(gives).append(m).append("pop; "); break;
            default: b.append(of(LABELS)); break;
        }
    }
}
