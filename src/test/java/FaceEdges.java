import java.io.IOException;
import java.nio.file.Files;
import java.nio.file.Path;

/** The four headings of the interface, ahead of the calls that they belong to. */
final class FaceEdges {
    private FaceEdges() {
    }

    static void run() throws IOException {
        String code = Files.readString(Path.of("src/main/java/TurnPort.java"));
        Said.says("Ahead of the calls `set`, `come`, `comes`, `type`, `rule`, `told`, `rank`, `full` "
            + "the interface says: ---- 1 streams, words, rules.");
        headed(code, "---- 1 streams, words, rules", "set come comes type rule told rank full");
        Said.says("Ahead of the calls `ticks`, `next`, `count`, `sent`, `late`, `behind` "
            + "the interface says: ---- 2 the port.");
        headed(code, "---- 2 the port", "ticks next count sent late behind");
        Said.says("Ahead of the calls `promise`, `taken`, `lags`, `heaps`, `cut`, `found`, `order` "
            + "the interface says: ---- 3 promises, heaps, rules found, orders.");
        headed(code, "---- 3 promises, heaps, rules found, orders", "promise taken lags heaps cut found order");
        Said.says("Ahead of the calls `sheet`, `drop`, `item`, `copy` the interface says: ---- 4 sheets.");
        headed(code, "---- 4 sheets", "sheet drop item copy");
    }

    private static void headed(String code, String heading, String calls) {
        int at = code.indexOf("// " + heading);
        Due.holds("the heading " + heading, at >= 0);
        int next = code.indexOf("// ----", at + 1);
        for (String call : calls.split(" ")) {
            int stands = Math.max(code.indexOf("public int " + call + "("), code.indexOf("public long " + call + "("));
            Due.holds(call + " stands behind " + heading, stands > at && stands < next);
        }
    }
}
