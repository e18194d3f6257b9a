import java.lang.reflect.Field;
import java.lang.reflect.Method;
import java.lang.reflect.Modifier;
import java.nio.file.Files;
import java.nio.file.Path;
import java.util.ArrayList;
import java.util.List;
import java.util.regex.Matcher;
import java.util.regex.Pattern;

/** Rules of LANGUAGE.md that can be read off the source's lines or the classes, each by its number there. */
public final class LanguageTest {
    // strings, signs and remarks are left out of the lines before these are looked for
    private static final String[] FORBIDDEN = {
        "2 \\w+ -> |\\) -> ", "2 ::", "4 Exact\\(", "4 \\bSystem\\.(?!arraycopy)", "4 \\.stream\\(", "4 \\bString\\.(format|valueOf|join)",
        "6 \\bthrow\\b", "6 \\btry\\b", "6 \\bcatch\\b", "6 \\bsynchronized\\b", "6 \\bassert\\b",
        "6 \\b(equals|hashCode|toString)\\(.*\\) \\{", "10 \" \\+ |\\+ \"", "13 \\b(Random|Thread\\.|Runtime\\.|nanoTime|currentTimeMillis|File)\\b"};

    public static void main(String[] args) throws Exception {
        List<String> lines = new ArrayList<>();
        boolean remark = false;
        for (String line : Files.readAllLines(Path.of("src/main/java/ThreadJudge.java"))) {
            for (int k = 0; k < line.length(); k++) {
                Judged.yes("3, signs 1 to 127: " + line, line.charAt(k) > 0 && line.charAt(k) < 128);
            }
            String bare = line.replaceAll("\"(\\\\.|[^\"\\\\])*\"", "\"\"").replaceAll("'(\\\\.|[^'\\\\])'", "' '").replaceAll("//.*", "");
            remark = remark || bare.trim().startsWith("/*");
            lines.add(remark ? "" : bare);
            remark = remark && !bare.contains("*/");
        }
        for (String line : lines) {
            for (String word : FORBIDDEN) {
                String[] parts = word.split(" ", 2);
                boolean arm = parts[0].equals("2") && line.trim().matches("(case|default)\\b.*");
                Judged.yes("rule " + word + " in " + line, arm || !Pattern.compile(parts[1]).matcher(line).find());
            }
            Judged.yes("4, no library but java.util: " + line, !line.startsWith("import ")
                || line.matches("import java\\.util\\.(Arrays|ArrayList|List|Iterator);"));
        }
        lengths(lines);
        List<Class<?>> classes = new ArrayList<>(List.of(ThreadJudge.class.getDeclaredClasses()));
        Judged.yes("11, some twelve classes: " + classes.size(), classes.size() <= 14);
        classes.add(ThreadJudge.class);
        for (Class<?> c : classes) {
            Judged.yes("2, static: " + c, c == ThreadJudge.class || Modifier.isStatic(c.getModifiers()));
            Judged.due("2, no class inside: " + c, c == ThreadJudge.class ? 0 : c.getDeclaredClasses().length, 0);
            members(c);
        }
        Judged.end();
    }

    /** Rule 11: methods of some sixty lines. */
    private static void lengths(List<String> lines) {
        Pattern head = Pattern.compile("^( {4}| {8})(?! )[\\w\\[\\]<> ]*\\(.*\\) \\{$");
        for (int k = 0; k < lines.size(); k++) {
            Matcher m = head.matcher(lines.get(k));
            int end = k;
            String last = m.find() ? m.group(1) + "}" : lines.get(k);
            while (end < lines.size() && !lines.get(end).equals(last)) {
                end++;
            }
            Judged.yes("11, sixty lines: " + lines.get(k), end - k < 64);
        }
    }

    /** Rules 1, 5 and 11: static fields are final, some twenty others, seven parameters, no name of the face in private. */
    private static void members(Class<?> c) {
        int own = 0;
        for (Field f : c.getDeclaredFields()) {
            boolean made = Modifier.isStatic(f.getModifiers());
            Judged.yes("5, static fields are final: " + f, !made || Modifier.isFinal(f.getModifiers()));
            own += made ? 0 : 1;
        }
        Judged.yes("11, some twenty fields: " + c + " " + own, own <= 24);
        for (Method m : c.getDeclaredMethods()) {
            Judged.yes("11, seven parameters: " + m, m.getParameterCount() <= 7);
            for (Method face : ThreadJudge.class.getMethods()) {
                boolean named = face.getDeclaringClass() == ThreadJudge.class && face.getName().equals(m.getName());
                Judged.yes("1, a name of the face: " + m, !named || m.equals(face) || !Modifier.isPrivate(m.getModifiers()));
            }
        }
    }
}
