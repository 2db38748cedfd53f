import java.io.IOException;
import java.nio.charset.StandardCharsets;
import java.nio.file.Files;
import java.nio.file.Path;
import java.util.regex.Matcher;
import java.util.regex.Pattern;

/** What a reader of the text alone can see of LANGUAGE.md's rules. Runs from the project's root. */
public final class LanguageTest {
    private static final String[] NEVER = {
        "\\bthrow\\b", "\\bthrows\\b", "\\btry\\b", "\\bcatch\\b", "\\bfinally\\b", "->", "::", "\\bsynchronized\\b",
        "\\bassert\\b", "\\bprotected\\b", "\\bpackage\\b", "\\bstatic \\{", "\\bnew \\w+\\(\\) \\{", "@\\w+",
        "\\bSystem\\.(?!arraycopy\\b)", "\\bMath\\.(?!min\\b|max\\b|floorDiv\\b)", "\\bArrays\\.(?!fill\\b)",
        "\\bstatic (?!final\\b|boolean \\w+\\(|int \\w+\\()", "\\bdouble\\b", "\\bfloat\\b", "\\.equals\\(",
        "\\btoString\\b", "\\bhashCode\\b", "\\bvar\\b"};

    public static void main(String[] args) throws IOException {
        String text = Files.readString(Path.of("src/main/java/TurnPort.java"), StandardCharsets.US_ASCII);
        String code = text.replaceAll("(?s)/\\*.*?\\*/", "").replaceAll("//[^\n]*", "");
        for (String never : NEVER) {
            Matcher m = Pattern.compile(never).matcher(code);
            Due.holds("no " + never, !m.find());
        }
        Matcher imports = Pattern.compile("(?m)^import (.*);$").matcher(code);
        while (imports.find()) {
            Due.holds("import " + imports.group(1), imports.group(1).equals("java.util.Arrays"));
        }
        methods(code);
        Due.end("LanguageTest");
    }

    private static void methods(String code) {
        Matcher m = Pattern.compile("(?m)^( +)(?:[\\w\\[\\]]+ )*\\w+\\(([^()]*)\\) \\{$").matcher(code);
        int seen = 0;
        while (m.find()) {
            String end = "\n" + m.group(1) + "}";
            int stop = code.indexOf(end, m.end());
            String body = code.substring(m.start(), stop);
            String name = body.substring(0, body.indexOf('{')).trim();
            if (name.startsWith("for ") || name.startsWith("if ") || name.startsWith("while ")) {
                continue;
            }
            seen++;
            Due.holds(name + " is short", body.split("\n").length <= 60);
            Due.holds(name + " takes at most seven", m.group(2).split(",").length <= 7);
        }
        Due.holds("methods were seen: " + seen, seen > 100);
    }
}
