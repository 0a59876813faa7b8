import java.io.IOException;
import java.nio.file.Files;
import java.nio.file.Path;
import java.util.ArrayList;
import java.util.List;
import java.util.Set;
import java.util.regex.Matcher;
import java.util.regex.Pattern;

/** The rules of ../shared/LANGUAGE.md that can be seen in the class's text. */
public final class LanguageRules {
    private static final Pattern LIBRARY = Pattern.compile(
        "(Integer|Long|Math)\\.\\w+(?<!Exact)|System\\.arraycopy|Arrays\\.(copyOf|copyOfRange|fill)|List\\.of");
    private static final Set<String> MADE = Set.of("int", "long", "short", "byte", "char", "boolean", "double", "float",
        "String", "StringBuilder", "ArrayList", "IllegalStateException", "IllegalArgumentException");
    private static final int LONGEST_METHOD = 60;
    private static final int DEEPEST_CALL = 8;

    private final String text;
    private final String[] rows;
    private final List<String> owners = new ArrayList<>();
    private final List<String> names = new ArrayList<>();
    private final List<String> bodies = new ArrayList<>();

    private LanguageRules(String text) {
        this.text = text;
        this.rows = text.split("\n");
    }

    public static void main(String[] args) throws IOException {
        LanguageRules rules = new LanguageRules(bare(Files.readString(Path.of("src/main/java/CheckDaemon.java"))));
        rules.findClasses();
        rules.words();
        rules.library();
        rules.madeObjects();
        rules.staticFields();
        rules.exceptions();
        rules.methods();
        Due.end();
    }

    /** Without comments, and without what stands in texts and characters. */
    private static String bare(String source) {
        String uncommented = source.replaceAll("(?s)/\\*.*?\\*/", "").replaceAll("//[^\n]*", "");
        return uncommented.replaceAll("\"[^\"\n]*\"", "\"\"").replaceAll("'(\\\\.|[^'\\\\])'", "''");
    }

    private static void truth(String what, boolean holds) {
        Due.due(what, 1, holds ? 1 : 0);
    }

    private void none(String what, String pattern) {
        Matcher found = Pattern.compile(pattern).matcher(text);
        boolean there = found.find();
        truth("no " + what + (there ? ": " + found.group() : ""), !there);
    }

    private void findClasses() {
        Matcher found = Pattern.compile("\\bclass (\\w+)").matcher(text);
        while (found.find()) {
            owners.add(found.group(1));
        }
        Due.sentence("rule 11");
        truth("some twelve classes: " + owners, owners.size() <= 12 && owners.get(0).equals("CheckDaemon"));
    }

    private void words() {
        Due.sentence("rule 1");
        none("package", "\\bpackage\\b");
        none("protected", "\\bprotected\\b");
        Due.sentence("rule 2");
        none("lambda", "->");
        none("method reference", "::");
        Due.sentence("rule 3");
        none("array of arrays of objects", "[A-Z]\\w*\\[\\]\\[");
        Due.sentence("rule 4");
        none("other import", "\\bimport (?!java\\.util\\.(ArrayList|List|Arrays|Iterator);).*");
        Due.sentence("rule 6");
        none("word that is ruled out", "\\b(finally|synchronized|assert|getMessage|hashCode)\\b");
        none("catch of what the machine may throw", "\\bcatch \\((?!Illegal(State|Argument)Exception \\w+\\)).*");
        Due.sentence("rule 13");
        none("thread or clock", "\\b(Thread|Runtime|volatile|native|nanoTime|currentTimeMillis|Random)\\b");
    }

    private void library() {
        Due.sentence("rule 4");
        Matcher found = Pattern.compile("(?<![\\w.])([A-Z]\\w*[a-z]\\w*)\\.(\\w+)").matcher(text);
        while (found.find()) {
            truth("uses " + found.group(), owners.contains(found.group(1)) || LIBRARY.matcher(found.group()).matches());
        }
    }

    private void madeObjects() {
        Due.sentence("rules 3 and 4");
        Matcher found = Pattern.compile("\\bnew (\\w+)").matcher(text);
        while (found.find()) {
            truth("makes a " + found.group(1), owners.contains(found.group(1)) || MADE.contains(found.group(1)));
        }
    }

    private void staticFields() {
        Due.sentence("rule 5");
        none("static block", "\\bstatic\\s*\\{");
        for (String row : rows) {
            if (row.contains("static ") && row.contains(";") && row.contains("=")) {
                truth(row.trim() + " is a constant", row.matches(".*static final (int|long|boolean|char|String|byte)(\\[\\])? [A-Z_]+ = .*"));
            }
        }
    }

    private void exceptions() {
        Due.sentence("rule 6");
        Matcher found = Pattern.compile("\\bthrow\\b[^;]*;").matcher(text);
        while (found.find()) {
            truth(found.group(), found.group().matches("throw new Illegal(State|Argument)Exception\\(\"\"\\);"));
        }
    }

    private static int indent(String row) {
        return row.length() - row.stripLeading().length();
    }

    /** Each method's length, its parameters, and how deep its calls go where they are no recursion. */
    private void methods() {
        Due.sentence("rule 11");
        Pattern head = Pattern.compile("\\s+(?:\\w+ )*(\\w+)\\((.*)\\)[^;]*\\{");
        for (int k = 0; k < rows.length; k++) {
            Matcher found = head.matcher(rows[k]);
            int level = indent(rows[k]);
            if (level <= 8 && found.matches() && !found.group(1).matches("if|for|while|switch")) {
                StringBuilder body = new StringBuilder();
                int last = k + 1;
                while (last < rows.length && !(indent(rows[last]) == level && rows[last].trim().equals("}"))) {
                    body.append(rows[last]).append('\n');
                    last++;
                }
                truth(found.group(1) + " is short", last - k + 1 <= LONGEST_METHOD);
                truth(found.group(1) + " takes at most seven", found.group(2).split(",").length <= 7);
                names.add(found.group(1));
                bodies.add(body.toString());
            }
        }
        truth("methods were found", names.size() > 50);
        for (int k = 0; k < names.size(); k++) {
            int depth = depth(k, new ArrayList<>());
            truth("calls from " + names.get(k) + " go " + depth + " deep", depth <= DEEPEST_CALL);
        }
    }

    /** A call may be of any method of its name, so that the depth is never told too low. */
    private int depth(int method, List<Integer> open) {
        int deepest = 0;
        open.add(method);
        for (int k = 0; k < names.size(); k++) {
            if (!open.contains(k) && Pattern.compile("\\b" + names.get(k) + "\\(").matcher(bodies.get(method)).find()) {
                deepest = Math.max(deepest, depth(k, open));
            }
        }
        open.remove(open.size() - 1);
        return 1 + deepest;
    }
}
