import java.lang.reflect.Constructor;
import java.lang.reflect.Method;
import java.lang.reflect.Modifier;
import java.util.Arrays;
import java.util.Random;

/** Any calls with any arguments in any state: none throws, and the same calls give the same answers. */
public final class AnyCallsTest {
    private static final String FACE = "analyse(int,int)int answer()int answered(int)int ask(int)int begin()boolean begins(int)int below(int,int)int"
        + " calls(int,boolean,int)int change(int,int)int clash(int,int)int classOf(int,int)int clear()int count(int)int end(int)int"
        + " feed(int,int,int,int,int)int field(int,int,int)int foreseen()boolean held(int,boolean,int)int holds(int,int,int)int"
        + " instruction(int,int)int kind(int,int,int)int knot(int,int)int load()int local(int,int)int method(int,int)int object(int,int)int"
        + " parallel(int,int)int race(int,int)int reached(int,int)int run(int,int)int said(int)int selected(int,int)int state(int,int)int"
        + " step(int)int thing(int,int)int thread(int,int)int unresolved(int)int value(int,int)int waits(int,int)int way(int,int)int";
    private static Method[] methods;

    public static void main(String[] args) throws Exception {
        face();
        int to = args.length > 0 ? Integer.parseInt(args[0]) : 160;
        for (int seed = 0; seed < to; seed++) {
            Judged.due("calls of seed " + seed, calls(seed), calls(seed));
        }
        Judged.end();
    }

    private static void face() {
        methods = Arrays.stream(ThreadJudge.class.getDeclaredMethods()).filter(m -> Modifier.isPublic(m.getModifiers()))
            .sorted((a, b) -> a.getName().compareTo(b.getName())).toArray(Method[]::new);
        StringBuilder all = new StringBuilder();
        for (Method m : methods) {
            all.append(m.getName()).append(Arrays.toString(m.getParameterTypes()).replace("[", "(").replace("]", ")").replace(" ", ""))
                .append(m.getReturnType()).append(' ');
        }
        Judged.yes("the face: " + all, all.toString().trim().equals(FACE));
        for (Method m : ThreadJudge.class.getDeclaredMethods()) {
            Judged.yes("no package-visible " + m.getName(), (m.getModifiers() & (Modifier.PUBLIC | Modifier.PRIVATE)) != 0);
        }
        for (java.lang.reflect.Field f : ThreadJudge.class.getDeclaredFields()) {
            Judged.yes("no other public " + f.getName(), Modifier.isPrivate(f.getModifiers()) || f.getName().equals("BAD"));
        }
        for (Constructor<?> c : ThreadJudge.class.getDeclaredConstructors()) {
            Judged.due("one constructor", c.getParameterCount(), 0);
        }
    }

    private static long calls(int seed) {
        Random r = new Random(seed);
        long sum = 0;
        ThreadJudge x = new ThreadJudge();
        for (int turn = 0; turn < 12; turn++) {
            if (r.nextInt(3) > 0) {
                x.clear();
                String text = new Maker(r.nextInt(3000)).text();
                if (r.nextInt(4) == 0) {
                    int at = r.nextInt(text.length());
                    text = text.substring(0, at) + text.substring(Math.min(text.length(), at + r.nextInt(30)));
                }
                Judged.feed(x, text);
                sum = sum * 31 + x.load();
                sum = sum * 31 + x.analyse(r.nextInt(4), 1 + r.nextInt(300));
                x.begin();
                x.run(1 + r.nextInt(300), r.nextInt());
            }
            for (int k = 0; k < 300; k++) {
                Method m = methods[r.nextInt(methods.length)];
                if (m.getName().equals("load") && r.nextInt(8) > 0) {
                    continue;
                }
                sum = sum * 31 + call(x, m, r);
            }
            String words = "all main reached native racing locking starting callers callees into from A0 Main T0 . ( ) | - & v s <init> ";
            for (int k = r.nextInt(12); k > 0; k--) {
                String word = words.split(" ")[r.nextInt(words.split(" ").length)];
                for (char c : (word + (r.nextBoolean() ? " " : "")).toCharArray()) {
                    x.ask(c);
                }
            }
            sum = sum * 31 + x.answer();
        }
        return sum;
    }

    private static long call(ThreadJudge x, Method m, Random r) {
        Object[] a = new Object[m.getParameterCount()];
        for (int k = 0; k < a.length; k++) {
            a[k] = m.getParameterTypes()[k] == boolean.class ? (Object) r.nextBoolean() : (Object) number(r);
        }
        try {
            Object got = m.invoke(x, a);
            return got instanceof Boolean ? (Boolean) got ? 1 : 0 : (Integer) got;
        } catch (ReflectiveOperationException e) {
            Judged.due(m.getName() + Arrays.toString(a) + " threw " + e.getCause(), 1, 0);
            return 0;
        }
    }

    private static int number(Random r) {
        switch (r.nextInt(8)) {
            case 0: return r.nextInt();
            case 1: return r.nextBoolean() ? Integer.MIN_VALUE : Integer.MAX_VALUE;
            case 2: return -r.nextInt(8);
            case 3: return r.nextInt(1200);
            default: return r.nextInt(r.nextBoolean() ? 24 : 150);
        }
    }
}
