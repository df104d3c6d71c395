import java.io.IOException;
import java.nio.file.Files;
import java.nio.file.Path;

/**
 * For each sentence of the document that names an edge the answers that are due there, worked out by hand. With
 * the document's path as argument the sentences are looked up in it.
 */
public final class EdgeTest extends Check {
    private EdgeTest() {
    }

    public static void main(String[] args) throws IOException {
        document = args.length > 0 && Files.exists(Path.of(args[0])) ? Files.readString(Path.of(args[0])) : "";
        TextEdges.all();
        ShapeEdges.all();
        OrderEdges.all();
        ActEdges.all();
        for (int number = 1; number <= 49; number++) {
            if (!promises.contains(number)) {
                wrong++;
                System.out.println("no edge of promise " + number);
            }
        }
        end("EdgeTest");
    }
}
