import java.io.IOException;
import java.nio.charset.StandardCharsets;
import java.nio.file.Files;
import java.nio.file.Path;
import java.util.HashMap;
import java.util.HashSet;
import java.util.Map;
import java.util.Set;
import java.util.regex.Matcher;
import java.util.regex.Pattern;

/** What a reader of the text alone can see of LANGUAGE.md's rules. Runs from the project's root. */
public final class LanguageTest {
    private static final String[] NEVER = {
        "\\bthrow\\b", "\\bthrows\\b", "\\btry\\b", "\\bcatch\\b", "\\bfinally\\b", "->", "::", "\\bsynchronized\\b",
        "\\bassert\\b", "\\bprotected\\b", "\\bpackage\\b", "\\bstatic \\{", "\\bnew \\w+\\(\\) \\{", "@\\w+",
        "\\bstatic (?!final\\b|boolean \\w+\\(|int \\w+\\()", "\\bdouble\\b", "\\bfloat\\b", "\\.equals\\(",
        "\\btoString\\b", "\\bhashCode\\b", "\\bvar\\b", "\\binstanceof\\b", "\\bnew String", "[^\\x00-\\x7f]"};
    // All of the library that the class uses: functions alone, as rule 4 lists them.
    private static final Set<String> LIBRARY = Set.of("System.arraycopy(", "Math.max(", "Math.min(", "Math.floorDiv(",
        "Arrays.fill(", "LETTERS.indexOf(");
    private static final Set<String> WORDS_AHEAD_OF_BRACKETS = Set.of("if", "for", "while", "switch", "return");
    private static final int MOST_DEEP = 8;

    private static final Map<String, Set<String>> CALLS = new HashMap<>();

    public static void main(String[] args) throws IOException {
        String text = Files.readString(Path.of("src/main/java/TurnPort.java"), StandardCharsets.US_ASCII);
        String code = text.replaceAll("(?s)/\\*.*?\\*/", "").replaceAll("//[^\n]*", "");
        for (String never : NEVER) {
            Matcher m = Pattern.compile(never).matcher(code);
            Due.holds("no " + never, !m.find());
        }
        Matcher imports = Pattern.compile("(?m)^import (.*);$").matcher(code);
        while (imports.find()) {
            Due.holds("import " + imports.group(1), imports.group(1).equals("java.util.Arrays"));
        }
        library(code);
        methods(code);
        Due.end("LanguageTest");
    }

    /** Rule 4: a name that begins with a great letter is asked for something only as the list has it. */
    private static void library(String code) {
        String behindImports = code.replaceAll("(?m)^import .*;$", "");
        Matcher own = Pattern.compile("\\bclass (\\w+)").matcher(code);
        Set<String> classes = new HashSet<>();
        while (own.find()) {
            classes.add(own.group(1));
        }
        Matcher m = Pattern.compile("\\b([A-Z]\\w*)\\.\\w+\\(?").matcher(behindImports);
        while (m.find()) {
            Due.holds("the library has " + m.group(), classes.contains(m.group(1)) || LIBRARY.contains(m.group()));
        }
        Matcher made = Pattern.compile("\\bnew (\\w+)").matcher(code);
        while (made.find()) {
            Due.holds("new " + made.group(1), classes.contains(made.group(1)) || made.group(1).matches("int|byte"));
        }
    }

    private static void methods(String code) {
        Matcher m = Pattern.compile("(?m)^( +)(?:[\\w\\[\\]]+ )*(\\w+)\\(([^()]*)\\) \\{$").matcher(code);
        int seen = 0;
        while (m.find()) {
            String end = "\n" + m.group(1) + "}";
            int stop = code.indexOf(end, m.end());
            String body = code.substring(m.start(), stop);
            String name = body.substring(0, body.indexOf('{')).trim();
            if (WORDS_AHEAD_OF_BRACKETS.contains(m.group(2))) {
                continue;
            }
            seen++;
            Due.holds(name + " is short", body.split("\n").length <= 60);
            Due.holds(name + " takes at most seven", m.group(3).split(",").length <= 7);
            CALLS.computeIfAbsent(m.group(2), k -> new HashSet<>()).addAll(calledIn(code.substring(m.end(), stop)));
        }
        Due.holds("methods were seen: " + seen, seen > 100);
        for (String name : CALLS.keySet()) {
            Due.holds(name + " goes at most eight deep", deep(name, 1) <= MOST_DEEP);
        }
    }

    private static Set<String> calledIn(String body) {
        Set<String> names = new HashSet<>();
        Matcher m = Pattern.compile("\\b(\\w+)\\(").matcher(body);
        while (m.find()) {
            names.add(m.group(1));
        }
        return names;
    }

    /** Methods of one name count as one: that is never too little. One that calls itself is far too deep. */
    private static int deep(String name, int level) {
        int most = level;
        for (String called : CALLS.getOrDefault(name, Set.of())) {
            if (level > MOST_DEEP) {
                return level;
            }
            if (CALLS.containsKey(called)) {
                most = Math.max(most, deep(called, level + 1));
            }
        }
        return most;
    }
}
