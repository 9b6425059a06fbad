import java.io.IOException;
import java.nio.file.Files;
import java.nio.file.Path;
import java.util.List;
import java.util.Set;
import java.util.TreeSet;
import java.util.regex.Matcher;
import java.util.regex.Pattern;
import java.util.stream.Collectors;

/** The calls of README.md's example, made in their order, are answered as the comments behind them begin. */
public final class ReadmeTest {
    private static final Pattern CALL = Pattern.compile("line\\.(\\w+)\\((.*)\\); +// ([^:]*)(:.*)?");

    public static void main(String[] args) throws IOException {
        List<String> lines = Files.readAllLines(Path.of("README.md")).stream()
            .filter(line -> line.startsWith("line.")).collect(Collectors.toList());
        Sparkline x = new Sparkline();
        Set<String> kinds = new TreeSet<>();
        for (String line : lines) {
            Matcher call = CALL.matcher(line);
            Due.holds("a comment behind " + line, call.matches());
            kinds.add(call.group(1));
            Due.same(line, due(call), Told.answer(x, call.group(1) + " " + words(call.group(2))));
        }
        Due.holds("of each group there are calls: " + kinds,
            kinds.containsAll(Set.of("wire", "least", "crimp", "reel", "solder", "recall")));
        Due.end();
    }

    private static String due(Matcher call) {
        return call.group(1).equals("limits") ? "null" : call.group(3).trim();
    }

    /** Arguments as Told reads them: numbers, true and false. */
    private static String words(String arguments) {
        return arguments.replace("Sparkline.NONE", "-1").replace("1 << 6", "64").replace(",", " ");
    }
}
