import java.io.IOException;
import java.nio.file.Files;
import java.nio.file.Path;
import java.util.ArrayList;
import java.util.List;

/** README.md, its blocks marked java apart from all that stands elsewhere. */
final class Readme {
    private static final Path FILE = Path.of("README.md");
    private static final String BEGIN = "```java";
    private static final String END = "```";

    final List<List<String>> blocks = new ArrayList<>();
    final List<String> elsewhere = new ArrayList<>();

    Readme() throws IOException {
        List<String> block = null;
        for (String line : Files.readAllLines(FILE)) {
            if (block == null && line.equals(BEGIN)) {
                block = new ArrayList<>();
                blocks.add(block);
            } else if (block == null) {
                elsewhere.add(line);
            } else if (line.equals(END)) {
                block = null;
            } else {
                block.add(line);
            }
        }
    }

    /** The lines of the blocks that show a call. */
    List<Shown> shown() {
        List<Shown> all = new ArrayList<>();
        for (List<String> block : blocks) {
            for (String line : block) {
                Shown shown = Shown.in(line);
                if (shown != null) {
                    all.add(shown);
                }
            }
        }
        return all;
    }
}
