import java.io.IOException;
import java.nio.file.Files;
import java.nio.file.Path;
import java.util.List;
import java.util.regex.Matcher;
import java.util.regex.Pattern;

/** Makes the calls of README.md's tour, line by line, and compares the answers with those that are told there. */
public final class ReadmeTest {
    /** A call, and behind it what it answers if it answers anything. */
    private static final Pattern LINE =
        Pattern.compile("museum\\.(\\w+)\\(([-0-9, ]*)\\);(?:\\s*// (?:(-?\\d+): )?.*)?");
    private static final int CALLS = 24;

    public static void main(String[] args) throws IOException {
        List<String> readme = Files.readAllLines(Path.of("README.md"));
        int from = readme.indexOf("```java");
        LockMuseum museum = new LockMuseum();
        int calls = 0;
        for (int i = from + 2; from >= 0 && i < readme.size() && !readme.get(i).equals("```"); i++) {
            Matcher line = LINE.matcher(readme.get(i));
            if (line.matches()) {
                calls++;
                Integer got = answer(museum, line.group(1), numbers(line.group(2)));
                Check.same(readme.get(i), String.valueOf(got), String.valueOf(line.group(3)));
            } else {
                Check.same("a line of the tour that is no call", readme.get(i), "");
            }
        }
        Check.due("calls of the tour", calls, CALLS);
        Check.finish();
    }

    private static int[] numbers(String list) {
        String[] parts = list.isEmpty() ? new String[0] : list.split(", ");
        int[] values = new int[parts.length];
        for (int i = 0; i < parts.length; i++) {
            values[i] = Integer.parseInt(parts[i]);
        }
        return values;
    }

    /** Null if the call answers nothing. */
    private static Integer answer(LockMuseum museum, String name, int[] with) {
        switch (name) {
            case "exhibit": museum.exhibit(with[0], with[1]); return null;
            case "change": museum.change(with[0], with[1], with[2], with[3], with[4]); return null;
            case "mend": museum.mend(); return null;
            case "want": museum.want(with[0]); return null;
            case "step": return museum.step(with[0]);
            case "leave": museum.leave(with[0]); return null;
            case "word": return museum.word(with[0]);
            case "register": return museum.register(with[0], with[1]);
            case "about": return museum.about(with[0], with[1]);
            case "run": return museum.run(with[0], with[1]);
            case "judge": return museum.judge(with[0]);
            case "states": return museum.states();
            case "trail": return museum.trail(with[0]);
            default: throw new IllegalStateException("no such call: " + name);
        }
    }
}
