import java.util.ArrayDeque;
import java.util.ArrayList;
import java.util.Deque;
import java.util.HashSet;
import java.util.List;
import java.util.Set;
import java.util.TreeSet;

/**
 * The document once more, in its slowest and plainest form: it keeps texts
 * alone and finds everything anew after each edit. It shares no code and no
 * way of reading with CheckDaemon, so that a slip is not made twice.
 */
final class PlainChecker {
    static final class Told {
        final int module;
        final int line;
        final int place;
        final int code;

        Told(int module, int line, int place, int code) {
            this.module = module;
            this.line = line;
            this.place = place;
            this.code = code;
        }
    }

    private record Before(int place, String text) {
    }

    private String typed = "";
    private final String[] texts = new String[96];
    private final int[] wrongs = new int[96];
    private List<Set<Integer>> typesNow = null;
    private List<Told> toldNow = null;
    private final Deque<Before> undos = new ArrayDeque<>();

    int type(int... numbers) {
        StringBuilder more = new StringBuilder();
        for (int number : numbers) {
            for (int k = 0; k < 4; k++) {
                int c = number >>> 24 - 8 * k & 255;
                if (c != 0) {
                    more.append((char) c);
                }
            }
        }
        if (typed.length() + more.length() > 60) {
            throw new IllegalStateException();
        }
        typed += more;
        return typed.length();
    }

    int erase() {
        int had = typed.length();
        typed = "";
        return had;
    }

    int put(int module, int line) {
        need(module, 8);
        need(line, 12);
        int place = 12 * module + line;
        undos.addLast(new Before(place, texts[place]));
        if (undos.size() > 16) {
            undos.removeFirst();
        }
        String now = typed.replace(" ", "").isEmpty() ? null : typed;
        typed = "";
        return edit(place, now);
    }

    int drop(int module) {
        need(module, 8);
        int gone = 0;
        for (int place = 12 * module; place < 12 * module + 12; place++) {
            gone += texts[place] == null ? 0 : 1;
            set(place, null);
        }
        undos.clear();
        return gone;
    }

    int undo() {
        if (undos.isEmpty()) {
            throw new IllegalStateException();
        }
        Before last = undos.removeLast();
        return edit(last.place, last.text);
    }

    int symbol(int module, int symbol, int what) {
        need(module, 8);
        need(symbol, 26);
        need(what, 4);
        int asked = 26 * module + symbol;
        int definers = 0;
        int readers = 0;
        for (int place = 0; place < 96; place++) {
            definers += definedBy(place) == asked ? 1 : 0;
            readers += readBy(place).contains(asked) ? 1 : 0;
        }
        if (what == 1) {
            return definers;
        }
        if (what == 2) {
            return readers;
        }
        if (definers == 0) {
            return -1;
        }
        return what == 0 ? number(types().get(asked)) : circleOf(asked).first();
    }

    int line(int module, int line, int what) {
        need(module, 8);
        need(line, 12);
        need(what, 5);
        int place = 12 * module + line;
        if (texts[place] == null) {
            return -1;
        }
        boolean readable = canBeRead(place);
        switch (what) {
            case 0:
                return texts[place].length();
            case 1:
                return readable ? 1 : 0;
            case 2:
                return readable ? number(expressionType(place, types(), new ArrayList<>())) : -1;
            case 3:
                return (int) diagnostics().stream().filter(t -> t.module == module && t.line == line).count();
            default:
                return readable ? readBy(place).size() : -1;
        }
    }

    int diagnostic(int k, int what) {
        need(what, 4);
        List<Told> all = diagnostics();
        if (k < 0 || k >= all.size()) {
            return -1;
        }
        Told told = all.get(k);
        return new int[] {told.module, told.line, told.place, told.code}[what];
    }

    int count(int what) {
        need(what, 6);
        Set<Integer> defined = defined();
        switch (what) {
            case 0:
                return diagnostics().size();
            case 1:
                return defined.size();
            case 2:
                Set<Set<Integer>> circles = new HashSet<>();
                for (int s : defined) {
                    circles.add(circleOf(s));
                }
                return (int) circles.stream().filter(c -> c.size() > 1).count();
            case 3:
                return (int) defined.stream().filter(s -> hangsOn(s).contains(s)).count();
            case 4:
                int lines = 0;
                for (String text : texts) {
                    lines += text == null ? 0 : 1;
                }
                return lines;
            default:
                return undos.size();
        }
    }

    private static void need(int number, int bound) {
        if (number < 0 || number >= bound) {
            throw new IllegalArgumentException();
        }
    }

    private void set(int place, String now) {
        texts[place] = now;
        wrongs[place] = now == null ? 0 : wrongAt(now);
        typesNow = null;
        toldNow = null;
    }

    private int edit(int place, String now) {
        int before = definedBy(place);
        set(place, now);
        Set<Integer> looked = new HashSet<>(List.of(place));
        boolean more = true;
        while (more) {
            Set<Integer> touched = new HashSet<>(List.of(before));
            for (int at : looked) {
                touched.add(definedBy(at));
            }
            more = false;
            for (int at = 0; at < 96; at++) {
                Set<Integer> common = readBy(at);
                common.retainAll(touched);
                more |= !common.isEmpty() && looked.add(at);
            }
        }
        return looked.size();
    }

    // ---- reading: a line goes on, character by character, between states

    /** Where the line cannot go on, -1 if it can be read. */
    static int wrongAt(String text) {
        String state = "start";
        StringBuilder open = new StringBuilder();
        int lists = 0;
        for (int k = 0; k < text.length(); k++) {
            char c = text.charAt(k);
            if (c == ' ') {
                continue;
            }
            String next = null;
            boolean upper = c >= 'A' && c <= 'Z';
            switch (state) {
                case "start":
                    next = upper ? "named" : c == '=' ? "atom" : null;
                    break;
                case "named":
                    next = c == ':' ? "word" : c == '=' ? "atom" : null;
                    break;
                case "word":
                    next = "ifsn?".indexOf(c) >= 0 ? "worded" : null;
                    lists = 0;
                    break;
                case "worded":
                    next = c == '[' && lists < 3 ? "wordlist" : c == '|' ? "word" : c == '=' ? "atom" : null;
                    break;
                case "wordlist":
                    next = c == ']' ? "worded" : null;
                    lists++;
                    break;
                case "atom":
                    if (upper || "ifsn?".indexOf(c) >= 0) {
                        next = "after";
                    } else if (c >= '0' && c <= '7') {
                        next = "dot";
                    } else if ((c == '[' || c == '(') && open.length() < 12) {
                        open.append(c);
                        next = "atom";
                    }
                    break;
                case "dot":
                    next = c == '.' ? "foreign" : null;
                    break;
                case "foreign":
                    next = upper ? "after" : null;
                    break;
                case "close":
                    next = c == ']' ? "after" : null;
                    break;
                case "letter":
                    next = "ifsn".indexOf(c) >= 0 ? "after" : null;
                    break;
                default:
                    next = c == '!' ? "after" : c == '[' ? "close" : c == '&' ? "letter" : c == '|' || c == '+' ? "atom" : null;
                    int deep = open.length();
                    if (deep > 0 && (c == ']' && open.charAt(deep - 1) == '[' || c == ')' && open.charAt(deep - 1) == '(')) {
                        open.setLength(deep - 1);
                        next = "after";
                    }
            }
            if (next == null) {
                return k;
            }
            state = next;
        }
        return state.equals("after") && open.length() == 0 ? -1 : text.length();
    }

    private boolean canBeRead(int place) {
        return texts[place] != null && wrongs[place] < 0;
    }

    private int definedBy(int place) {
        if (!canBeRead(place)) {
            return -1;
        }
        char c = texts[place].replace(" ", "").charAt(0);
        return c == '=' ? -1 : 26 * (place / 12) + c - 'A';
    }

    private Set<Integer> readBy(int place) {
        Set<Integer> found = new HashSet<>();
        if (canBeRead(place)) {
            String text = texts[place].replace(" ", "");
            for (int k = text.indexOf('=') + 1; k < text.length(); k++) {
                char c = text.charAt(k);
                if (c >= 'A' && c <= 'Z') {
                    int module = text.charAt(k - 1) == '.' ? text.charAt(k - 2) - '0' : place / 12;
                    found.add(26 * module + c - 'A');
                }
            }
        }
        return found;
    }

    private Set<Integer> defined() {
        Set<Integer> found = new TreeSet<>();
        for (int place = 0; place < 96; place++) {
            found.add(definedBy(place));
        }
        found.remove(-1);
        return found;
    }

    // ---- types: sets of forms, pair by pair

    private static int number(Set<Integer> forms) {
        int bits = 0;
        for (int form : forms) {
            bits |= 1 << form;
        }
        return bits;
    }

    private List<Set<Integer>> types() {
        if (typesNow == null) {
            typesNow = findTypes();
        }
        return typesNow;
    }

    private List<Set<Integer>> findTypes() {
        Set<Integer> defined = defined();
        List<Set<Integer>> types = new ArrayList<>();
        for (int s = 0; s < 208; s++) {
            types.add(defined.contains(s) ? new TreeSet<>() : new TreeSet<>(List.of(4)));
        }
        boolean changed = true;
        while (changed) {
            changed = false;
            for (int place = 95; place >= 0; place--) {
                int s = definedBy(place);
                if (s >= 0) {
                    Set<Integer> word = typeWord(place);
                    changed |= types.get(s).addAll(word != null ? word : expressionType(place, types, new ArrayList<>()));
                }
            }
        }
        return types;
    }

    private Set<Integer> typeWord(int place) {
        String text = texts[place].replace(" ", "");
        if (text.charAt(0) == '=' || text.charAt(1) == '=') {
            return null;
        }
        Set<Integer> forms = new TreeSet<>();
        for (String one : text.substring(2, text.indexOf('=')).split("\\|")) {
            forms.add("ifsn?".indexOf(one.charAt(0)) + 5 * (one.length() / 2));
        }
        return forms;
    }

    private Set<Integer> expressionType(int place, List<Set<Integer>> types, List<int[]> told) {
        Walk walk = new Walk(texts[place], place / 12, types, defined(), told);
        return walk.expression();
    }

    private static final class Walk {
        final String text;
        final int module;
        final List<Set<Integer>> types;
        final Set<Integer> defined;
        final List<int[]> told;
        int at;

        Walk(String text, int module, List<Set<Integer>> types, Set<Integer> defined, List<int[]> told) {
            this.text = text;
            this.module = module;
            this.types = types;
            this.defined = defined;
            this.told = told;
            this.at = text.indexOf('=') + 1;
        }

        char see() {
            while (at < text.length() && text.charAt(at) == ' ') {
                at++;
            }
            return at < text.length() ? text.charAt(at) : 0;
        }

        char eat() {
            char c = see();
            at++;
            return c;
        }

        Set<Integer> expression() {
            Set<Integer> sum = or();
            while (see() == '+') {
                int place = at;
                eat();
                Set<Integer> right = or();
                Set<Integer> result = new TreeSet<>();
                boolean lost = false;
                for (int e : sum) {
                    for (int f : right) {
                        Set<Integer> pair = sumOf(e, f);
                        lost |= pair.isEmpty();
                        result.addAll(pair);
                    }
                }
                if (lost) {
                    told.add(new int[] {place, 4});
                }
                sum = result;
            }
            return sum;
        }

        static Set<Integer> sumOf(int e, int f) {
            if (e == 4 || f == 4) {
                return Set.of(4);
            }
            if (e == 0 && f == 0) {
                return Set.of(0);
            }
            if (e == 0 && f == 1 || e == 1 && f == 0 || e == 1 && f == 1) {
                return Set.of(1);
            }
            if (e == 2 && f == 2) {
                return Set.of(2);
            }
            return e / 5 == f / 5 && e / 5 >= 1 ? new TreeSet<>(List.of(e, f)) : Set.of();
        }

        Set<Integer> or() {
            Set<Integer> all = new TreeSet<>(part());
            while (see() == '|') {
                eat();
                all.addAll(part());
            }
            return all;
        }

        Set<Integer> part() {
            Set<Integer> forms = atom();
            while (see() == '!' || see() == '[' || see() == '&') {
                int place = at;
                char c = eat();
                Set<Integer> result = new TreeSet<>();
                if (c == '!') {
                    result.addAll(forms);
                    result.remove(3);
                } else if (c == '[') {
                    eat();
                    boolean lost = false;
                    for (int form : forms) {
                        if (form >= 5) {
                            result.add(form - 5);
                        } else if (form == 4) {
                            result.add(4);
                        } else {
                            lost = true;
                        }
                    }
                    if (lost) {
                        told.add(new int[] {place, 3});
                    }
                } else {
                    int letter = "ifsn".indexOf(eat());
                    if (forms.contains(letter) || forms.contains(4)) {
                        result.add(letter);
                    }
                }
                forms = result;
            }
            return forms;
        }

        Set<Integer> atom() {
            see();
            int place = at;
            char c = eat();
            if (c == '(') {
                Set<Integer> inner = expression();
                eat();
                return inner;
            }
            if (c == '[') {
                Set<Integer> result = new TreeSet<>();
                for (int form : expression()) {
                    result.add(form < 15 ? form + 5 : 19);
                }
                eat();
                return result;
            }
            if ("ifsn?".indexOf(c) >= 0) {
                return Set.of("ifsn?".indexOf(c));
            }
            int owner = module;
            if (c <= '7') {
                owner = c - '0';
                eat();
                c = eat();
            }
            int s = 26 * owner + c - 'A';
            if (!defined.contains(s)) {
                told.add(new int[] {place, 2});
            }
            return types.get(s);
        }
    }

    // ---- what is wrong, and circles

    private List<Told> diagnostics() {
        if (toldNow == null) {
            toldNow = findDiagnostics();
        }
        return toldNow;
    }

    private List<Told> findDiagnostics() {
        List<Told> all = new ArrayList<>();
        List<Set<Integer>> types = types();
        for (int place = 0; place < 96; place++) {
            if (texts[place] == null) {
                continue;
            }
            List<int[]> told = new ArrayList<>();
            int wrong = wrongs[place];
            if (wrong >= 0) {
                told.add(new int[] {wrong, 1});
            } else {
                Set<Integer> type = new TreeSet<>(expressionType(place, types, told));
                Set<Integer> word = typeWord(place);
                if (word != null && !word.contains(4)) {
                    type.removeAll(word);
                    type.remove(4);
                    if (!type.isEmpty()) {
                        told.add(new int[] {texts[place].indexOf('='), 5});
                    }
                }
            }
            told.sort((p, q) -> p[0] != q[0] ? p[0] - q[0] : p[1] - q[1]);
            for (int[] one : told) {
                all.add(new Told(place / 12, place % 12, one[0], one[1]));
            }
        }
        return all;
    }

    private Set<Integer> hangsOn(int symbol) {
        Set<Integer> found = new HashSet<>();
        Deque<Integer> next = new ArrayDeque<>(List.of(symbol));
        while (!next.isEmpty()) {
            int s = next.pop();
            for (int place = 0; place < 96; place++) {
                if (definedBy(place) == s) {
                    for (int r : readBy(place)) {
                        if (found.add(r)) {
                            next.push(r);
                        }
                    }
                }
            }
        }
        return found;
    }

    private TreeSet<Integer> circleOf(int symbol) {
        TreeSet<Integer> members = new TreeSet<>(List.of(symbol));
        for (int other : hangsOn(symbol)) {
            if (hangsOn(other).contains(symbol)) {
                members.add(other);
            }
        }
        return members;
    }
}
