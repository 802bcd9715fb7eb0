import java.io.IOException;
import java.nio.charset.StandardCharsets;
import java.nio.file.Files;
import java.nio.file.Path;
import java.util.regex.Matcher;
import java.util.regex.Pattern;

/** The README's example answers what its comments say: each of its lines is read from there and asked here. */
public final class ReadmeTest {
    private static final Checks c = new Checks();
    private static final Pattern TEXT = Pattern.compile("String text = \"([^\"]*)\";");
    private static final Pattern ASKED = Pattern.compile("int \\w+ = sky\\.(\\w+)\\(([-0-9, ]*)\\); *// (-?\\d+)");

    public static void main(String[] args) throws IOException {
        String readme = Files.readString(Path.of("README.md"), StandardCharsets.UTF_8);
        Matcher text = TEXT.matcher(readme);
        c.holds("the README has a text", text.find());
        SkyListeners sky = new SkyListeners();
        Checks.type(sky, text.group(1));
        int lines = 0;
        for (Matcher asked = ASKED.matcher(readme); asked.find(); lines++) {
            c.due("README: " + asked.group(), answer(sky, asked.group(1), asked.group(2)), Integer.parseInt(asked.group(3)));
        }
        c.due("lines of the README that ask", lines, 10);
        c.end();
    }

    private static int answer(SkyListeners sky, String call, String numbers) {
        int[] n = Pattern.compile(", *").splitAsStream(numbers).filter(one -> !one.isEmpty()).mapToInt(Integer::parseInt).toArray();
        return switch (call) {
            case "valley" -> sky.valley();
            case "looks" -> sky.looks(n[0], n[1]);
            case "hears" -> sky.hears(n[0], n[1]);
            case "best" -> sky.best(n[0], n[1], n[2]);
            case "lend" -> sky.lend(n[0], n[1], n[2]);
            case "turn" -> sky.turn(n[0], n[1]);
            case "undo" -> sky.undo();
            case "heard" -> sky.heard(n[0], n[1], n[2], n[3]);
            case "sky" -> sky.sky(n[0]);
            default -> throw new IllegalStateException("the test knows no " + call);
        };
    }
}
