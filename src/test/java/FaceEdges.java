import java.io.IOException;
import java.nio.file.Files;
import java.nio.file.Path;

/** The public face as the document writes it, and its four headings ahead of the calls that they belong to. */
final class FaceEdges {
    private static final String[] CALLS = {
        "public int set(int stream, int what, int v);", "public int come(int stream, int length);",
        "public int comes(int sheet, int lane, int i, int n);", "public int type(long w, int n);",
        "public int rule(int which);", "public int told(int word, int what);", "public long rank(int word, int which);",
        "public int full(int what, int v);", "public int ticks(int n);", "public int next();",
        "public int count(int what);", "public int sent(int i);", "public int late(int word);",
        "public int behind(int word, int what);", "public int promise(int stream, int most);",
        "public int taken(int stream);", "public int lags(int stream);",
        "public int heaps(int sheet, int lane, int i, int n, int k);",
        "public int cut(int sheet, int lane, int i, int n, int k);",
        "public int found(int sheet, int lane, int i, int n);",
        "public int order(int sheet, int lane, int i, int n, int what);",
        "public int sheet(int sheet, int lane, int n);", "public int drop(int sheet);",
        "public int item(int sheet, int lane, int i, int v);", "public int copy(int from, int i, int to, int j, int n); }"};

    private FaceEdges() {
    }

    static void run() throws IOException {
        String code = Files.readString(Path.of("src/main/java/TurnPort.java"));
        face(code);
        Said.says("Ahead of the calls `set`, `come`, `comes`, `type`, `rule`, `told`, `rank`, `full` "
            + "the interface says: ---- 1 streams, words, rules.");
        headed(code, "---- 1 streams, words, rules", "set come comes type rule told rank full");
        Said.says("Ahead of the calls `ticks`, `next`, `count`, `sent`, `late`, `behind` "
            + "the interface says: ---- 2 the port.");
        headed(code, "---- 2 the port", "ticks next count sent late behind");
        Said.says("Ahead of the calls `promise`, `taken`, `lags`, `heaps`, `cut`, `found`, `order` "
            + "the interface says: ---- 3 promises, heaps, rules found, orders.");
        headed(code, "---- 3 promises, heaps, rules found, orders", "promise taken lags heaps cut found order");
        Said.says("Ahead of the calls `sheet`, `drop`, `item`, `copy` the interface says: ---- 4 sheets.");
        headed(code, "---- 4 sheets", "sheet drop item copy");
    }

    /** FaceTest looks at the class itself; here its text has the document's lines, in their order. */
    private static void face(String code) {
        int at = line(code, 0, "public final class TurnPort {", "public final class TurnPort {");
        String constants = "public static final int BAD = -1, NOT = -2, FULL = -3, NONE = -4, "
            + "NULL = -11, CAST = -12, INDEX = -13, SIZE = -14;";
        at = line(code, at, constants, constants);
        at = line(code, at, "public TurnPort();", "public TurnPort() {");
        for (String call : CALLS) {
            at = line(code, at, call, call.substring(0, call.indexOf(';')) + " {");
        }
        Due.holds("nothing public stands behind the last one", code.indexOf("public ", at + 1) < 0);
    }

    private static int line(String code, int from, String words, String stands) {
        Said.says(words);
        int at = code.indexOf(stands, from);
        Due.holds("the class has " + stands, at >= from);
        return Math.max(from, at);
    }

    private static void headed(String code, String heading, String calls) {
        int at = code.indexOf("// " + heading);
        Due.holds("the heading " + heading, at >= 0);
        int next = code.indexOf("// ----", at + 1);
        for (String call : calls.split(" ")) {
            int stands = Math.max(code.indexOf("public int " + call + "("), code.indexOf("public long " + call + "("));
            Due.holds(call + " stands behind " + heading, stands > at && stands < next);
        }
    }
}
