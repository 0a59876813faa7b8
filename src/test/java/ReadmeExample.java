import java.io.IOException;
import java.lang.reflect.Method;
import java.nio.file.Files;
import java.nio.file.Path;
import java.util.regex.Matcher;
import java.util.regex.Pattern;

/** README.md's examples answer what stands behind them, and it tells of every call and constant of the face. */
public final class ReadmeExample {
    private static final Pattern CALL = Pattern.compile("x\\.(\\w+)\\(([^)]*)\\); *// *(.*)");
    private static final Pattern ANSWER = Pattern.compile("(-?\\d+|throws (\\w+))\\b.*");
    private static final int FEWEST_CALLS = 15;

    public static void main(String[] args) throws IOException {
        String readme = Files.readString(Path.of("README.md"));
        Due.sentence("README.md");
        runExamples(readme);
        tellsOfTheFace(readme);
        Due.end();
    }

    private static void runExamples(String readme) {
        CheckDaemon x = new CheckDaemon();
        int calls = 0;
        for (String row : readme.split("\n")) {
            if (row.contains("new CheckDaemon()")) {
                x = new CheckDaemon();
            }
            Matcher call = CALL.matcher(row.trim());
            if (call.matches()) {
                Matcher answer = ANSWER.matcher(call.group(3));
                int got = answerOf(x, call.group(1), call.group(2));
                Due.due(row + " tells an answer", 1, answer.matches() ? 1 : 0);
                Due.due(row, answer.matches() ? told(answer) : 0, got);
                calls++;
            }
        }
        Due.due("there are enough examples", 1, calls >= FEWEST_CALLS ? 1 : 0);
    }

    private static int told(Matcher answer) {
        if (answer.group(2) == null) {
            return Integer.parseInt(answer.group(1));
        }
        return answer.group(2).equals("IllegalStateException") ? Due.THROWS_STATE : Due.THROWS_ARGUMENT;
    }

    private static int answerOf(CheckDaemon x, String name, String list) {
        String[] texts = list.isBlank() ? new String[0] : list.split(",");
        int[] n = new int[texts.length];
        for (int k = 0; k < n.length; k++) {
            n[k] = Integer.decode(texts[k].trim());
        }
        switch (name) {
            case "type":
                return Due.answerOf(() -> x.type(n[0], n[1], n[2], n[3], n[4]));
            case "erase":
                return Due.answerOf(x::erase);
            case "put":
                return Due.answerOf(() -> x.put(n[0], n[1]));
            case "drop":
                return Due.answerOf(() -> x.drop(n[0]));
            case "undo":
                return Due.answerOf(x::undo);
            case "symbol":
                return Due.answerOf(() -> x.symbol(n[0], n[1], n[2]));
            case "line":
                return Due.answerOf(() -> x.line(n[0], n[1], n[2]));
            case "diagnostic":
                return Due.answerOf(() -> x.diagnostic(n[0], n[1]));
            default:
                return Due.answerOf(() -> x.count(n[0]));
        }
    }

    private static void tellsOfTheFace(String readme) {
        for (Method method : CheckDaemon.class.getMethods()) {
            if (method.getDeclaringClass() == CheckDaemon.class) {
                String start = "| `" + method.getName() + "(";
                Due.due("has a row of " + method.getName(), 1, readme.contains(start) ? 1 : 0);
                Due.due("has an example of " + method.getName(), 1, readme.contains("x." + method.getName() + "(") ? 1 : 0);
            }
        }
        String[] constants = {"NONE", "SYNTAX", "UNKNOWN", "NOLIST", "NOSUM", "MISMATCH"};
        for (String constant : constants) {
            Due.due("tells of " + constant, 1, readme.contains("`" + constant + "`") ? 1 : 0);
        }
    }
}
