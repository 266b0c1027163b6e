import java.io.IOException;
import java.nio.file.Files;
import java.nio.file.Path;
import java.util.regex.Matcher;
import java.util.regex.Pattern;

/** The example of README.md: each row answers the number with which its comment begins. */
public final class ReadmeTest {
    private static final Pattern ROW =
            Pattern.compile("(?m)^(?:int (\\w+) = )?rack\\.(\\w+\\([^)]*\\)); *// (-?\\d+)\\b");

    public static void main(String[] args) throws IOException {
        Script script = new Script();
        String readme = Files.readString(Path.of("README.md"));
        Matcher row = ROW.matcher(readme);
        Rack rack = new RealRack();
        int rows = 0;
        String[] names = new String[8];
        while (row.find()) {
            rows++;
            String call = row.group(2);
            for (int i = 0; i < names.length && names[i] != null; i++) {
                call = call.replace(names[i], Integer.toString(i));
            }
            String answer = Rack.answerTo(rack, call);
            script.same("README.md: " + row.group(2), row.group(3), answer);
            if (row.group(1) != null) {
                names[Integer.parseInt(answer)] = row.group(1);
            }
        }
        long calls = readme.lines().filter(line -> line.contains("rack.")).count();
        script.same("README.md: rows of the example", Long.toString(calls), Integer.toString(rows));
        script.end();
    }
}
