import java.util.ArrayList;
import java.util.Arrays;
import java.util.List;
import java.util.Random;
import java.util.regex.Matcher;
import java.util.regex.Pattern;

/** Changes one to three tokens, flags or lines of a text. */
final class Changer {
    private static final Pattern TOKEN = Pattern.compile("[A-Za-z_<][A-Za-z0-9_>]*|-?\\d+|\"[^\"]*\"|[{}()\\[\\];:,.]");
    private static final List<String> PLAIN = words("add sub mul div rem pop dup swap under length element setelement enter exit throw neg return give");
    private static final List<String> JUMPS = words("ifeq ifne iflt ifge ifgt ifle cmpeq cmpne cmplt cmpge cmpgt cmple same other ifnull ifsome goto");
    private static final List<String> CALLS = words("virtual special call");
    private static final List<String> FLAGS = words("static synchronized abstract volatile final excluded");

    private final Random r;
    private final List<String> tokens = new ArrayList<>();

    private Changer(String text, Random random) {
        r = random;
        Matcher m = TOKEN.matcher(text);
        while (m.find()) {
            tokens.add(m.group());
        }
    }

    static String change(String text, Random random) {
        Changer c = new Changer(text, random);
        for (int k = 1 + random.nextInt(3); k > 0; k--) {
            c.once();
        }
        StringBuilder all = new StringBuilder();
        for (String t : c.tokens) {
            all.append(t).append(' ');
        }
        return all.toString();
    }

    private static List<String> words(String all) {
        return Arrays.asList(all.split(" "));
    }

    private int any() {
        return r.nextInt(tokens.size());
    }

    private void once() {
        switch (r.nextInt(7)) {
            case 0: another(any()); break;
            case 1: another(PLAIN); break;
            case 2: another(JUMPS); break;
            case 3: another(CALLS); break;
            case 4: flag(); break;
            case 5: line(any()); break;
            default: number(); break;
        }
    }

    /** A token becomes another one of its make that the text has. */
    private void another(int i) {
        for (int tries = 0; tries < 50; tries++) {
            String t = tokens.get(any());
            if (make(t) == make(tokens.get(i)) && !t.equals(tokens.get(i))) {
                tokens.set(i, t);
                return;
            }
        }
    }

    private static int make(String t) {
        char c = t.charAt(0);
        if (Character.isDigit(c) || c == '-') {
            return 1;
        }
        if (c == '"') {
            return 2;
        }
        return Character.isLetter(c) || c == '_' || c == '<' ? Character.isUpperCase(c) ? 3 : 4 : 5 + c;
    }

    private void another(List<String> words) {
        for (int tries = 0; tries < 60; tries++) {
            int i = any();
            if (words.contains(tokens.get(i))) {
                tokens.set(i, words.get(r.nextInt(words.size())));
                return;
            }
        }
    }

    private void flag() {
        for (int tries = 0; tries < 80; tries++) {
            int i = any();
            String t = tokens.get(i);
            if (t.equals("method") || t.equals("field")) {
                tokens.add(i, FLAGS.get(r.nextInt(5)));
                return;
            }
            if (t.equals("class") && r.nextBoolean()) {
                tokens.add(i, r.nextBoolean() ? "excluded" : "abstract");
                return;
            }
            if (FLAGS.contains(t) && r.nextBoolean()) {
                tokens.remove(i);
                return;
            }
        }
    }

    /** A line comes twice, or goes. */
    private void line(int i) {
        int from = i;
        while (from > 0 && !";{:".contains(tokens.get(from - 1))) {
            from--;
        }
        int to = i;
        while (to < tokens.size() - 1 && !tokens.get(to).equals(";")) {
            to++;
        }
        List<String> some = new ArrayList<>(tokens.subList(from, to + 1));
        if (r.nextBoolean()) {
            tokens.addAll(from, some);
        } else {
            tokens.subList(from, to + 1).clear();
        }
        if (tokens.isEmpty()) {
            tokens.add(";");
        }
    }

    private void number() {
        for (int tries = 0; tries < 60; tries++) {
            int i = any();
            if (make(tokens.get(i)) == 1) {
                tokens.set(i, Integer.toString(r.nextInt(12) - 1));
                return;
            }
        }
    }
}
