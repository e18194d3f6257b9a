import java.nio.file.Files;
import java.nio.file.Path;
import java.util.ArrayList;
import java.util.List;
import java.util.regex.Matcher;
import java.util.regex.Pattern;

/** Rules of LANGUAGE.md that can be read off the source's lines: words, lengths, parameters, classes, fields. */
public final class LanguageTest {
    private static final String[] FORBIDDEN = {"\\bthrow\\b", "\\btry\\b", "\\bcatch\\b", "\\bsynchronized\\b", "\\bassert\\b",
        "->", "::", "\\binstanceof\\b", "\\bwhile\\b", "Exact\\(", "\\bSystem\\.(?!arraycopy)", "\\bRandom\\b", "\\bthis\\b",
        "\\bprotected\\b", "@Override", "\\bInteger\\b", "\\bRuntime\\.", "[)\\w\"] \\+ \"", "\" \\+ "};

    public static void main(String[] args) throws Exception {
        List<String> lines = new ArrayList<>();
        boolean remark = false;
        for (String line : Files.readAllLines(Path.of("src/main/java/ThreadJudge.java"))) {
            for (int k = 0; k < line.length(); k++) {
                Judged.yes("signs 1 to 127: " + line, line.charAt(k) > 0 && line.charAt(k) < 128);
            }
            String bare = line.replaceAll("\"(\\\\.|[^\"\\\\])*\"", "\"\"").replaceAll("'(\\\\.|[^'\\\\])'", "' '").replaceAll("//.*", "");
            remark = remark || bare.trim().startsWith("/*");
            lines.add(remark ? "" : bare);
            remark = remark && !bare.contains("*/");
        }
        int classes = 0;
        for (String line : lines) {
            for (String word : FORBIDDEN) {
                Judged.yes(word + " in " + line, !Pattern.compile(word).matcher(line).find());
            }
            classes += line.matches(".*\\bclass \\w+.*") ? 1 : 0;
        }
        Judged.yes("classes: " + classes, classes <= 12);
        methods(lines);
        fields(lines);
        Judged.end();
    }

    private static void methods(List<String> lines) {
        Pattern head = Pattern.compile("^( {4}| {8})(?:private |public |static |final )*[\\w\\[\\]]+ ?\\w*\\((.*)\\) \\{$");
        int found = 0;
        for (int k = 0; k < lines.size(); k++) {
            Matcher m = head.matcher(lines.get(k));
            if (m.find()) {
                int end = k;
                while (!lines.get(end).equals(m.group(1) + "}")) {
                    end++;
                }
                found++;
                Judged.yes("sixty lines: " + lines.get(k), end - k < 60);
                Judged.yes("seven parameters: " + lines.get(k), m.group(2).split(",").length <= 7);
            }
        }
        Judged.yes("methods are found", found > 300);
    }

    private static void fields(List<String> lines) {
        int n = 0;
        for (String line : lines) {
            if (line.matches(".*\\bclass \\w+.*")) {
                n = 0;
            }
            if (line.matches("^ {8}(private |final )*(int|long|char|boolean|Program|[A-Z]\\w+)[\\[\\]]* \\w+( = .*)?;$") && !line.contains("static")) {
                n++;
            }
            Judged.yes("some twenty fields: " + line, n <= 22);
        }
    }
}
