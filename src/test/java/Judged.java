import java.nio.charset.StandardCharsets;

/** What the tests share: texts are fed, answers are compared, and the exit code tells the end. */
final class Judged {
    private static int wrong;
    private static int asked;

    private Judged() {
    }

    static void due(String what, long got, long want) {
        asked++;
        if (got != want) {
            wrong++;
            System.out.println(what + ": answered " + got + ", due is " + want);
        }
    }

    static void yes(String what, boolean got) {
        due(what, got ? 1 : 0, 1);
    }

    static void end() {
        System.out.println(asked + " answers, " + wrong + " not as due");
        if (wrong != 0 || asked == 0) {
            System.exit(1);
        }
    }

    /** Puts a text, in twenties, behind the text that is there. */
    static ThreadJudge feed(ThreadJudge x, String text) {
        byte[] all = text.getBytes(StandardCharsets.ISO_8859_1);
        for (int from = 0; from < all.length; from += 20) {
            int[] v = new int[5];
            for (int k = 0; k < 20; k++) {
                int b = from + k < all.length ? all[from + k] & 255 : 0;
                v[k / 4] = v[k / 4] << 8 | b;
            }
            x.feed(v[0], v[1], v[2], v[3], v[4]);
            if (all.length - from < 20) {
                x.end(all.length - from);
            }
        }
        return x;
    }

    static ThreadJudge of(String text) {
        return feed(new ThreadJudge(), text);
    }

    /** A text that must load. */
    static ThreadJudge loaded(String text) {
        ThreadJudge x = of(text);
        int fault = x.load();
        if (fault != 0) {
            due("load of " + text, fault * 100000L + x.count(1), 0);
        }
        return x;
    }

    /** A text that must have a fault, at the place where it tells @ (which is left out). */
    static void fault(int number, String marked) {
        int place = marked.indexOf('@');
        String text = place < 0 ? marked : marked.substring(0, place) + marked.substring(place + 1);
        ThreadJudge x = of(text);
        due("load of " + marked, x.load(), number);
        due("count(0) of " + marked, x.count(0), number);
        due("count(1) of " + marked, x.count(1), place < 0 ? text.length() : place);
        due("count(3) of " + marked, x.count(3), 0);
    }

    /** A text whose main method is told, behind other classes. */
    static String main(String classes, String lines) {
        return classes + " class Main { static method void main() { " + lines + " } }";
    }

    static void fine(String text) {
        ThreadJudge x = of(text);
        due("load of " + text, x.load(), 0);
    }

    static int ask(ThreadJudge x, String question) {
        for (int k = 0; k < question.length(); k++) {
            x.ask(question.charAt(k));
        }
        return x.answer();
    }
}
