import java.util.Arrays;
import java.util.Random;

/**
 * Many runs of calls by chance (of written seeds, so always the same ones), each
 * call's answer held against PlainChecker's: promises 1 to 10 together. No object
 * gets more calls than the 512 whose answers the document promises.
 */
public final class AgainstPlainChecker {
    private static final int RUNS = 1000;
    private static final int CALLS = 512;
    /** A line of 60 characters takes three calls of type, and its put one. */
    private static final int DEAREST_ACT = 4;
    private static final int LAST_QUESTIONS = 200;

    private final Random chance;
    private final CheckDaemon x = new CheckDaemon();
    private final PlainChecker plain = new PlainChecker();
    private final int modules;
    private final int letters;
    private final boolean careful;
    private final StringBuilder story = new StringBuilder();
    private int calls = 0;

    private AgainstPlainChecker(int seed) {
        chance = new Random(seed);
        modules = 1 + chance.nextInt(8);
        letters = 1 + chance.nextInt(seed % 3 == 0 ? 26 : 5);
        careful = seed % 4 != 0;
    }

    public static void main(String[] args) {
        for (int seed = 1; seed <= RUNS && Due.wrongCount() == 0; seed++) {
            new AgainstPlainChecker(seed).run(seed);
        }
        Due.end();
    }

    /** Half of the runs are edited to their last call, the others are asked of all that stands. */
    private void run(int seed) {
        int acts = seed % 2 == 0 ? CALLS : CALLS - LAST_QUESTIONS;
        while (calls + DEAREST_ACT <= acts && Due.wrongCount() == 0) {
            act();
        }
        while (calls < acts && Due.wrongCount() == 0) {
            ask();
        }
        askInOrder(seed / 2 * LAST_QUESTIONS);
        if (Due.wrongCount() != 0) {
            System.out.println("seed " + seed + ":\n" + story);
        }
        Due.due("calls of a run", CALLS, calls);
    }

    private void act() {
        int kind = chance.nextInt(100);
        if (kind < 30) {
            typeAndPut();
        } else if (kind < 38) {
            same("undo", x::undo, plain::undo);
        } else if (kind == 38) {
            int module = number(modules);
            same("drop " + module, () -> x.drop(module), () -> plain.drop(module));
        } else if (kind == 39) {
            same("erase", x::erase, plain::erase);
        } else if (kind == 40) {
            typeAnything();
        } else {
            ask();
        }
    }

    /** Now and then a number that is out of bounds. */
    private int number(int bound) {
        int kind = chance.nextInt(80);
        return kind == 0 ? -1 : kind == 1 ? bound + chance.nextInt(9) : kind == 2 ? chance.nextInt() : chance.nextInt(bound);
    }

    private void typeAnything() {
        int[] n = new int[5];
        for (int k = 0; k < n.length; k++) {
            n[k] = chance.nextInt() & (chance.nextBoolean() ? -1 : 255 << 8 * chance.nextInt(4));
        }
        same("type " + Arrays.toString(n), () -> x.type(n[0], n[1], n[2], n[3], n[4]), () -> plain.type(n));
    }

    private void typeAndPut() {
        String text = chance.nextInt(40) == 0 ? " ".repeat(chance.nextInt(4)) : lineByChance();
        for (int from = 0; from < text.length(); from += 20) {
            int[] n = Due.packed(text.substring(from, Math.min(text.length(), from + 20)));
            same("type " + text, () -> x.type(n[0], n[1], n[2], n[3], n[4]), () -> plain.type(n));
        }
        int module = number(modules);
        int line = number(12);
        same("put " + module + " " + line, () -> x.put(module, line), () -> plain.put(module, line));
    }

    private void ask() {
        int a = number(modules);
        int b = number(26);
        int l = number(12);
        int what = number(6);
        int k = chance.nextInt(30) - 1;
        switch (chance.nextInt(4)) {
            case 0:
                int s = b >= 0 && b < 26 ? b % letters : b;
                same("symbol " + a + " " + s + " " + what, () -> x.symbol(a, s, what), () -> plain.symbol(a, s, what));
                break;
            case 1:
                same("line " + a + " " + l + " " + what, () -> x.line(a, l, what), () -> plain.line(a, l, what));
                break;
            case 2:
                same("diagnostic " + k + " " + what, () -> x.diagnostic(k, what), () -> plain.diagnostic(k, what));
                break;
            default:
                same("count " + what, () -> x.count(what), () -> plain.count(what));
        }
    }

    /** What is left of the calls goes on through all questions that there are, the first of them by the seed. */
    private void askInOrder(int first) {
        int all = 6 + 208 * 4 + 96 * 5 + 4 * (plain.count(0) + 1);
        for (int k = first; calls < CALLS && Due.wrongCount() == 0; k++) {
            askNumber(k % all);
        }
    }

    private void askNumber(int number) {
        int s = number - 6;
        int l = s - 208 * 4;
        int d = l - 96 * 5;
        if (s < 0) {
            same("count " + number, () -> x.count(number), () -> plain.count(number));
        } else if (l < 0) {
            same("symbol " + s, () -> x.symbol(s / 104, s / 4 % 26, s % 4), () -> plain.symbol(s / 104, s / 4 % 26, s % 4));
        } else if (d < 0) {
            same("line " + l, () -> x.line(l / 60, l / 5 % 12, l % 5), () -> plain.line(l / 60, l / 5 % 12, l % 5));
        } else {
            same("diagnostic " + d, () -> x.diagnostic(d / 4, d % 4), () -> plain.diagnostic(d / 4, d % 4));
        }
    }

    private void same(String name, Due.Call call, Due.Call plainCall) {
        int want = Due.answerOf(plainCall);
        int before = Due.wrongCount();
        calls++;
        Due.due(name, want, call);
        if (before == 0) {
            story.append(name).append(" -> ").append(want).append('\n');
        }
    }

    private String lineByChance() {
        StringBuilder text = new StringBuilder();
        int kind = chance.nextInt(8);
        if (kind < 5) {
            text.append(name()).append('=');
        } else if (kind < 7) {
            text.append(name()).append(':').append(word()).append('=');
        } else {
            text.append('=');
        }
        expression(text, chance.nextInt(4));
        if (chance.nextInt(25) == 0) {
            nest(text, 11 + chance.nextInt(3));
        }
        spoil(text);
        int limit = Math.min(text.length(), 60);
        return text.substring(0, limit);
    }

    private void nest(StringBuilder text, int times) {
        char inner = chance.nextBoolean() ? 'i' : name();
        StringBuilder opening = new StringBuilder("=");
        StringBuilder closing = new StringBuilder();
        for (int k = 0; k < times; k++) {
            boolean list = chance.nextBoolean();
            opening.append(list ? '[' : '(');
            closing.insert(0, list ? ']' : ')');
        }
        text.setLength(0);
        text.append(opening).append(inner).append(closing);
    }

    private void spoil(StringBuilder text) {
        if (chance.nextInt(3) == 0) {
            for (int k = chance.nextInt(6); k > 0; k--) {
                text.insert(chance.nextInt(text.length() + 1), ' ');
            }
        }
        if (chance.nextInt(careful ? 20 : 3) == 0) {
            int at = chance.nextInt(text.length());
            switch (chance.nextInt(4)) {
                case 0:
                    text.deleteCharAt(at);
                    break;
                case 1:
                    text.insert(at, "=:|+![]&().?ifsnxAZ08\t\u00e4".charAt(chance.nextInt(23)));
                    break;
                case 2:
                    text.setLength(at);
                    break;
                default:
                    text.setCharAt(at, (char) (1 + chance.nextInt(255)));
            }
        }
        if (text.length() == 0) {
            text.append('=');
        }
    }

    private char name() {
        return (char) ('A' + chance.nextInt(letters));
    }

    private String word() {
        StringBuilder text = new StringBuilder();
        int parts = 1 + chance.nextInt(3);
        for (int k = 0; k < parts; k++) {
            text.append(k == 0 ? "" : "|").append("ifsn?".charAt(chance.nextInt(chance.nextInt(4) == 0 ? 5 : 4)));
            int lists = chance.nextInt(chance.nextInt(5) == 0 ? 5 : 2);
            text.append("[]".repeat(lists));
        }
        return text.toString();
    }

    private void expression(StringBuilder text, int depth) {
        int parts = 1 + chance.nextInt(3);
        for (int k = 0; k < parts; k++) {
            if (k > 0) {
                text.append(chance.nextInt(3) == 0 ? '+' : '|');
            }
            atom(text, depth);
            for (int e = chance.nextInt(6) - 3; e > 0; e--) {
                int kind = chance.nextInt(4);
                text.append(kind == 0 ? "!" : kind == 1 ? "&" + "ifsn".charAt(chance.nextInt(4)) : "[]");
            }
        }
    }

    private void atom(StringBuilder text, int depth) {
        int kind = chance.nextInt(10);
        if (kind < 3) {
            text.append("ifsn?".charAt(chance.nextInt(chance.nextInt(4) == 0 ? 5 : 4)));
        } else if (kind < 6) {
            text.append(name());
        } else if (kind < 8 || depth == 0) {
            text.append(chance.nextInt(modules)).append('.').append(name());
        } else {
            boolean list = chance.nextInt(3) != 0;
            text.append(list ? '[' : '(');
            expression(text, depth - 1);
            text.append(list ? ']' : ')');
        }
    }
}
