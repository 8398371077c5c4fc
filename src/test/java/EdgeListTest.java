import java.io.IOException;
import java.nio.file.Files;
import java.nio.file.Path;
import java.util.List;
import java.util.TreeMap;
import java.util.regex.Matcher;
import java.util.regex.Pattern;
import java.util.stream.Collectors;
import java.util.stream.Stream;

/** Each promise of the document has a sentence in the tests of edges, so that none is passed over. */
public final class EdgeListTest {
    private static final Path TESTS = Path.of("src/test/java"), DOC = Path.of("../shared/DOC.md");

    private static String allEdges() throws IOException {
        try (Stream<Path> files = Files.list(TESTS)) {
            List<Path> edges = files.filter(f -> f.getFileName().toString().endsWith("EdgesTest.java")).collect(Collectors.toList());
            StringBuilder all = new StringBuilder();
            for (Path file : edges) all.append(Files.readString(file));
            return all.toString();
        }
    }

    public static void main(String[] args) throws IOException {
        TreeMap<Integer, Integer> sentences = new TreeMap<>();
        Matcher promise = Pattern.compile("(?m)^## Promise (\\d+):").matcher(Files.readString(DOC));
        while (promise.find()) sentences.put(Integer.parseInt(promise.group(1)), 0);
        Matcher held = Pattern.compile("Edge\\.holds\\((\\d+),").matcher(allEdges());
        int all = 0;
        while (held.find()) {
            sentences.merge(Integer.parseInt(held.group(1)), 1, Integer::sum);
            all++;
        }
        List<Integer> without = sentences.keySet().stream().filter(p -> sentences.get(p) == 0).collect(Collectors.toList());
        System.out.println(all + " sentences for " + sentences.size() + " promises; without one: " + without);
        if (sentences.isEmpty() || !without.isEmpty()) System.exit(1);
    }
}
