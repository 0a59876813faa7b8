/**
 * A checker that stays up while modules are edited. The numbered promises of
 * the document say what each call answers.
 */
public final class CheckDaemon {
    public static final int NONE = -1;
    public static final int SYNTAX = 1;
    public static final int UNKNOWN = 2;
    public static final int NOLIST = 3;
    public static final int NOSUM = 4;
    public static final int MISMATCH = 5;

    private static final int LONGEST = 60;
    private static final int MODULES = 8;
    private static final int PLACES = 12;
    private static final int ALL_PLACES = MODULES * PLACES;
    private static final int LETTERS = 26;
    private static final int ALL_SYMBOLS = MODULES * LETTERS;
    private static final int MOST_UNDOS = 16;
    private static final int MOST_NESTED = 12;

    private final int[] typed = new int[LONGEST];
    private int typedLength = 0;
    private final Workspace workspace = new Workspace();
    private final History history = new History();

    public CheckDaemon() {
    }

    public int type(int a, int b, int c, int d, int e) throws IllegalStateException {
        int more = charactersIn(a) + charactersIn(b) + charactersIn(c) + charactersIn(d) + charactersIn(e);
        if (typedLength + more > LONGEST) {
            throw new IllegalStateException("the line would be too long");
        }
        append(a);
        append(b);
        append(c);
        append(d);
        append(e);
        return typedLength;
    }

    public int erase() {
        int had = typedLength;
        typedLength = 0;
        return had;
    }

    public int put(int module, int line) throws IllegalArgumentException {
        if (!isPlace(module, line)) {
            throw new IllegalArgumentException("no such place");
        }
        int place = module * PLACES + line;
        Line now = isBlank() ? null : new Parser(typed, typedLength, module).read();
        history.keep(place, workspace.lineAt(place));
        typedLength = 0;
        return workspace.edit(place, now);
    }

    public int drop(int module) throws IllegalArgumentException {
        if (module < 0 || module >= MODULES) {
            throw new IllegalArgumentException("no such module");
        }
        history.forget();
        int gone = 0;
        for (int line = 0; line < PLACES; line++) {
            int place = module * PLACES + line;
            if (workspace.lineAt(place) != null) {
                workspace.edit(place, null);
                gone++;
            }
        }
        return gone;
    }

    public int undo() throws IllegalStateException {
        if (history.size() == 0) {
            throw new IllegalStateException("nothing to undo");
        }
        int place = history.lastPlace();
        Line before = history.lastLine();
        history.removeLast();
        return workspace.edit(place, before);
    }

    public int symbol(int module, int symbol, int what) throws IllegalArgumentException {
        if (module < 0 || module >= MODULES || symbol < 0 || symbol >= LETTERS || what < 0 || what > 3) {
            throw new IllegalArgumentException("no such symbol or question");
        }
        return workspace.tellSymbol(module * LETTERS + symbol, what);
    }

    public int line(int module, int line, int what) throws IllegalArgumentException {
        if (!isPlace(module, line) || what < 0 || what > 4) {
            throw new IllegalArgumentException("no such place or question");
        }
        Line found = workspace.lineAt(module * PLACES + line);
        return found == null ? NONE : found.tellAbout(what);
    }

    public int diagnostic(int k, int what) throws IllegalArgumentException {
        if (what < 0 || what > 3) {
            throw new IllegalArgumentException("no such question");
        }
        return k < 0 ? NONE : workspace.tellFault(k, what);
    }

    public int count(int what) throws IllegalArgumentException {
        if (what < 0 || what > 5) {
            throw new IllegalArgumentException("no such question");
        }
        return what == 5 ? history.size() : workspace.howMany(what);
    }

    private static boolean isPlace(int module, int line) {
        return module >= 0 && module < MODULES && line >= 0 && line < PLACES;
    }

    private static int charactersIn(int four) {
        int found = 0;
        for (int shift = 24; shift >= 0; shift -= 8) {
            if ((four >>> shift & 255) != 0) {
                found++;
            }
        }
        return found;
    }

    private void append(int four) {
        for (int shift = 24; shift >= 0; shift -= 8) {
            int character = four >>> shift & 255;
            if (character != 0 && typedLength < typed.length) {
                typed[typedLength] = character;
                typedLength++;
            }
        }
    }

    private boolean isBlank() {
        for (int k = 0; k < typedLength && k < typed.length; k++) {
            if (typed[k] != ' ') {
                return false;
            }
        }
        return true;
    }

    /** What types are reckoned with: sets of forms, a bit for each. */
    private static final class Forms {
        static final int INT = 1;
        static final int FLOAT = 1 << 1;
        static final int STRING = 1 << 2;
        static final int NIL = 1 << 3;
        static final int ANY = 1 << 4;
        static final int LETTER_COUNT = 5;
        static final int DEEPEST = 3;

        private static final int BARE = ANY | ANY - 1;
        private static final int DEEPEST_ANY = ANY << LETTER_COUNT * DEEPEST;

        private Forms() {
        }

        static int letterOf(int character) {
            switch (character) {
                case 'i':
                    return 0;
                case 'f':
                    return 1;
                case 's':
                    return 2;
                case 'n':
                    return 3;
                case '?':
                    return 4;
                default:
                    return NONE;
            }
        }

        private static int inLists(int times) {
            return BARE << LETTER_COUNT * times;
        }

        static int listed(int forms) {
            int deepest = forms & inLists(DEEPEST);
            int others = (forms & ~deepest) << LETTER_COUNT;
            return deepest == 0 ? others : others | DEEPEST_ANY;
        }

        static int unlisted(int forms) {
            return forms >>> LETTER_COUNT | forms & ANY;
        }

        static boolean unlistingLoses(int forms) {
            return (forms & BARE & ~ANY) != 0;
        }

        static int withoutNil(int forms) {
            return forms & ~NIL;
        }

        static int narrowed(int forms, int letter) {
            int wanted = 1 << letter;
            return (forms & (wanted | ANY)) != 0 ? wanted : 0;
        }

        static int sum(int left, int right) {
            if (left == 0 || right == 0) {
                return 0;
            }
            int both = left | right;
            int result = both & ANY | left & right & (INT | STRING);
            if (makesFloat(left, right) || makesFloat(right, left)) {
                result |= FLOAT;
            }
            for (int times = 1; times <= DEEPEST; times++) {
                int level = inLists(times);
                if ((left & level) != 0 && (right & level) != 0) {
                    result |= both & level;
                }
            }
            return result;
        }

        private static boolean makesFloat(int left, int right) {
            return (left & FLOAT) != 0 && (right & (INT | FLOAT)) != 0;
        }

        /**
         * Every pair has a sum only if all forms but ? are numbers, or strings,
         * or in as many lists; so no pair need be looked at by itself.
         */
        static boolean summingLoses(int left, int right) {
            int leftKnown = left & ~ANY;
            int rightKnown = right & ~ANY;
            if (leftKnown == 0 || rightKnown == 0) {
                return false;
            }
            int both = leftKnown | rightKnown;
            boolean fits = (both & ~(INT | FLOAT)) == 0 || both == STRING;
            for (int times = 1; times <= DEEPEST; times++) {
                fits = fits || (both & ~inLists(times)) == 0;
            }
            return !fits;
        }
    }

    /** A set of symbols, each told by 26 times its module and its letter. */
    private static final class SymbolSet {
        private static final int WORDS = 4;

        private final long[] words = new long[WORDS];

        void add(int symbol) {
            if (symbol >= 0 && symbol < ALL_SYMBOLS) {
                words[symbol >> 6] |= 1L << (symbol & 63);
            }
        }

        boolean has(int symbol) {
            return symbol >= 0 && symbol < ALL_SYMBOLS && (words[symbol >> 6] >>> (symbol & 63) & 1L) != 0;
        }

        void addAll(SymbolSet others) {
            for (int k = 0; k < WORDS; k++) {
                words[k] |= others.words[k];
            }
        }

        void clear() {
            for (int k = 0; k < WORDS; k++) {
                words[k] = 0;
            }
        }

        int size() {
            int found = 0;
            for (int k = 0; k < WORDS; k++) {
                found += Long.bitCount(words[k]);
            }
            return found;
        }
    }

    /** The types of all symbols, and by how many lines each is defined. */
    private static final class Symbols {
        private final int[] types = new int[ALL_SYMBOLS];
        private final int[] definers = new int[ALL_SYMBOLS];

        Symbols() {
            for (int symbol = 0; symbol < ALL_SYMBOLS; symbol++) {
                types[symbol] = Forms.ANY;
            }
        }

        private static boolean isSymbol(int symbol) {
            return symbol >= 0 && symbol < ALL_SYMBOLS;
        }

        int typeOf(int symbol) {
            return isSymbol(symbol) ? types[symbol] : Forms.ANY;
        }

        int definersOf(int symbol) {
            return isSymbol(symbol) ? definers[symbol] : 0;
        }

        void addDefiners(int symbol, int more) {
            if (isSymbol(symbol)) {
                definers[symbol] += more;
            }
        }

        void restart(int symbol) {
            if (isSymbol(symbol)) {
                types[symbol] = definers[symbol] == 0 ? Forms.ANY : 0;
            }
        }

        boolean grow(int symbol, int forms) {
            if (!isSymbol(symbol) || (forms & ~types[symbol]) == 0) {
                return false;
            }
            types[symbol] |= forms;
            return true;
        }

        int definedCount() {
            int found = 0;
            for (int symbol = 0; symbol < ALL_SYMBOLS; symbol++) {
                if (definers[symbol] > 0) {
                    found++;
                }
            }
            return found;
        }
    }

    /** The diagnostics of one line; no two of them can be at one place. */
    private static final class Faults {
        private final int[] codes;
        private int size = 0;

        Faults(int lineLength) {
            codes = new int[lineLength < 0 ? 1 : lineLength + 1];
        }

        void clear() {
            for (int place = 0; place < codes.length; place++) {
                codes[place] = 0;
            }
            size = 0;
        }

        void add(int place, int code) {
            if (place >= 0 && place < codes.length && codes[place] == 0) {
                codes[place] = code;
                size++;
            }
        }

        int size() {
            return size;
        }

        int placeOf(int k) {
            int left = k;
            for (int place = 0; place < codes.length; place++) {
                if (codes[place] != 0) {
                    if (left == 0) {
                        return place;
                    }
                    left--;
                }
            }
            return NONE;
        }

        int codeOf(int k) {
            int place = placeOf(k);
            return place >= 0 && place < codes.length ? codes[place] : NONE;
        }
    }

    /**
     * An expression as steps, each of which uses only steps before it, so that
     * it is worked out again and again without being read again.
     */
    private static final class Expression {
        static final int LETTER = 0;
        static final int NAME = 1;
        static final int LIST = 2;
        static final int UNLIST = 3;
        static final int WITHOUT_NIL = 4;
        static final int NARROW = 5;
        static final int EITHER = 6;
        static final int SUM = 7;

        private final int[] kinds;
        private final int[] firsts;
        private final int[] seconds;
        private final int[] places;
        private final int[] values;
        private int size = 0;
        private final SymbolSet reads = new SymbolSet();

        Expression(int mostSteps) {
            int room = mostSteps < 0 ? 0 : mostSteps;
            kinds = new int[room];
            firsts = new int[room];
            seconds = new int[room];
            places = new int[room];
            values = new int[room];
        }

        int add(int kind, int first, int second, int place) {
            if (size >= kinds.length) {
                return NONE;
            }
            kinds[size] = kind;
            firsts[size] = first;
            seconds[size] = second;
            places[size] = place;
            size++;
            return size - 1;
        }

        int workOut(Symbols symbols) {
            for (int k = 0; k < size && k < values.length; k++) {
                values[k] = valueOf(k, symbols);
            }
            return valueAt(size - 1);
        }

        private int valueAt(int step) {
            return step >= 0 && step < values.length ? values[step] : 0;
        }

        private int valueOf(int k, Symbols symbols) {
            int first = firsts[k];
            int second = seconds[k];
            switch (kinds[k]) {
                case LETTER:
                    return 1 << first;
                case NAME:
                    return symbols.typeOf(first);
                case LIST:
                    return Forms.listed(valueAt(first));
                case UNLIST:
                    return Forms.unlisted(valueAt(first));
                case WITHOUT_NIL:
                    return Forms.withoutNil(valueAt(first));
                case NARROW:
                    return Forms.narrowed(valueAt(first), second);
                case EITHER:
                    return valueAt(first) | valueAt(second);
                default:
                    return Forms.sum(valueAt(first), valueAt(second));
            }
        }

        void findFaults(Symbols symbols, Faults faults) {
            for (int k = 0; k < size && k < kinds.length; k++) {
                int code = faultOf(k, symbols);
                if (code != NONE) {
                    faults.add(places[k], code);
                }
            }
        }

        private int faultOf(int k, Symbols symbols) {
            switch (kinds[k]) {
                case NAME:
                    return symbols.definersOf(firsts[k]) == 0 ? UNKNOWN : NONE;
                case UNLIST:
                    return Forms.unlistingLoses(valueAt(firsts[k])) ? NOLIST : NONE;
                case SUM:
                    return Forms.summingLoses(valueAt(firsts[k]), valueAt(seconds[k])) ? NOSUM : NONE;
                default:
                    return NONE;
            }
        }
    }

    /** A line that stands, or stood and may come back by an undo. */
    private static final class Line {
        private final int length;
        private final int defines;
        private final int declares;
        private final int equalsAt;
        private final int wrongAt;
        private final Expression expression;
        private final Faults faults;
        private int expressionType = 0;

        Line(int length, int defines, int declares, int equalsAt, Expression expression) {
            this.length = length;
            this.defines = defines;
            this.declares = declares;
            this.equalsAt = equalsAt;
            this.wrongAt = NONE;
            this.expression = expression;
            this.faults = new Faults(length);
        }

        /** One that cannot be read: it defines and reads nothing. */
        Line(int length, int wrongAt) {
            this.length = length;
            this.defines = NONE;
            this.declares = NONE;
            this.equalsAt = NONE;
            this.wrongAt = wrongAt;
            this.expression = new Expression(0);
            this.faults = new Faults(length);
        }

        int defined() {
            return defines;
        }

        boolean reads(int symbol) {
            return expression.reads.has(symbol);
        }

        SymbolSet symbolsRead() {
            return expression.reads;
        }

        Faults faults() {
            return faults;
        }

        int says() {
            return declares == NONE ? expressionType : declares;
        }

        void workOut(Symbols symbols) {
            expressionType = expression.workOut(symbols);
        }

        void findFaults(Symbols symbols) {
            faults.clear();
            if (wrongAt != NONE) {
                faults.add(wrongAt, SYNTAX);
                return;
            }
            expression.findFaults(symbols, faults);
            if (isMismatch()) {
                faults.add(equalsAt, MISMATCH);
            }
        }

        private boolean isMismatch() {
            if (declares == NONE || (declares & Forms.ANY) != 0) {
                return false;
            }
            return (expressionType & ~declares & ~Forms.ANY) != 0;
        }

        int tellAbout(int what) {
            switch (what) {
                case 0:
                    return length;
                case 1:
                    return wrongAt == NONE ? 1 : 0;
                case 2:
                    return wrongAt == NONE ? expressionType : NONE;
                case 3:
                    return faults.size();
                default:
                    return wrongAt == NONE ? expression.reads.size() : NONE;
            }
        }
    }

    /**
     * Reads one line. Where a method here fails, the parser stands at the
     * character where the line cannot go on.
     */
    private static final class Parser {
        private static final int END = -1;

        private final int[] text;
        private final int length;
        private final int module;
        private final Expression made;
        private int at = 0;
        private int defines = NONE;
        private int declares = NONE;
        private int equalsAt = NONE;

        Parser(int[] text, int length, int module) {
            this.text = text;
            this.length = Math.max(0, Math.min(length, text.length));
            this.module = module;
            this.made = new Expression(this.length);
        }

        Line read() {
            boolean whole = readHead() && readSum(0) != NONE && next() == END;
            return whole ? new Line(length, defines, declares, equalsAt, made) : new Line(length, at);
        }

        private int next() {
            while (at < length && text[at] == ' ') {
                at++;
            }
            return at < length ? text[at] : END;
        }

        private boolean take(int character) {
            if (next() != character) {
                return false;
            }
            at++;
            return true;
        }

        private static boolean isName(int character) {
            return character >= 'A' && character <= 'Z';
        }

        private boolean readHead() {
            int character = next();
            if (isName(character)) {
                at++;
                defines = module * LETTERS + character - 'A';
                if (take(':') && !readTypeWord()) {
                    return false;
                }
            }
            boolean found = take('=');
            equalsAt = at - 1;
            return found;
        }

        private boolean readTypeWord() {
            declares = 0;
            for (int k = 0; k < LONGEST; k++) {
                int form = Forms.letterOf(next());
                if (form == NONE) {
                    return false;
                }
                at++;
                for (int times = 0; times < Forms.DEEPEST && take('['); times++) {
                    if (!take(']')) {
                        return false;
                    }
                    form += Forms.LETTER_COUNT;
                }
                declares |= 1 << form;
                if (!take('|')) {
                    return true;
                }
            }
            return false;
        }

        private int readSum(int depth) {
            int step = readOr(depth);
            for (int k = 0; k < LONGEST && step != NONE && next() == '+'; k++) {
                int place = at;
                at++;
                int right = readOr(depth);
                step = right == NONE ? NONE : made.add(Expression.SUM, step, right, place);
            }
            return step;
        }

        private int readOr(int depth) {
            int step = readPart(depth);
            for (int k = 0; k < LONGEST && step != NONE && next() == '|'; k++) {
                int place = at;
                at++;
                int right = readPart(depth);
                step = right == NONE ? NONE : made.add(Expression.EITHER, step, right, place);
            }
            return step;
        }

        private int readPart(int depth) {
            int step = readAtom(depth);
            for (int k = 0; k < LONGEST && step != NONE && isEnding(next()); k++) {
                step = readEnding(step);
            }
            return step;
        }

        private static boolean isEnding(int character) {
            return character == '!' || character == '[' || character == '&';
        }

        private int readEnding(int step) {
            int place = at;
            int character = next();
            at++;
            if (character == '!') {
                return made.add(Expression.WITHOUT_NIL, step, 0, place);
            }
            if (character == '[') {
                return take(']') ? made.add(Expression.UNLIST, step, 0, place) : NONE;
            }
            int letter = Forms.letterOf(next());
            if (letter == NONE || next() == '?') {
                return NONE;
            }
            at++;
            return made.add(Expression.NARROW, step, letter, place);
        }

        private int readAtom(int depth) {
            int character = next();
            int place = at;
            int letter = Forms.letterOf(character);
            if (letter != NONE) {
                at++;
                return made.add(Expression.LETTER, letter, 0, place);
            }
            if (isName(character)) {
                return readName(module, place);
            }
            if (character >= '0' && character < '0' + MODULES) {
                at++;
                return take('.') ? readName(character - '0', place) : NONE;
            }
            boolean isList = character == '[';
            if (!isList && character != '(' || depth >= MOST_NESTED) {
                return NONE;
            }
            at++;
            int inner = readSum(depth + 1);
            if (inner == NONE || !take(isList ? ']' : ')')) {
                return NONE;
            }
            return isList ? made.add(Expression.LIST, inner, 0, place) : inner;
        }

        private int readName(int owner, int place) {
            int character = next();
            if (!isName(character)) {
                return NONE;
            }
            at++;
            int symbol = owner * LETTERS + character - 'A';
            made.reads.add(symbol);
            return made.add(Expression.NAME, symbol, 0, place);
        }
    }

    /** What stood where the last puts were, the newest last. */
    private static final class History {
        private final int[] places = new int[MOST_UNDOS];
        private final Line[] lines = new Line[MOST_UNDOS];
        private int size = 0;

        int size() {
            return size;
        }

        void keep(int place, Line before) {
            if (size >= MOST_UNDOS) {
                loseOldest();
            }
            places[size] = place;
            lines[size] = before;
            size++;
        }

        private void loseOldest() {
            for (int k = 1; k < MOST_UNDOS; k++) {
                places[k - 1] = places[k];
                lines[k - 1] = lines[k];
            }
            size = MOST_UNDOS - 1;
        }

        int lastPlace() {
            return size > 0 ? places[size - 1] : NONE;
        }

        Line lastLine() {
            return size > 0 ? lines[size - 1] : null;
        }

        void removeLast() {
            if (size > 0) {
                size--;
                lines[size] = null;
            }
        }

        void forget() {
            for (int k = 0; k < MOST_UNDOS; k++) {
                lines[k] = null;
            }
            size = 0;
        }
    }

    /** Which symbols hang on which, found anew when asked for after an edit. */
    private static final class Circles {
        private final SymbolSet[] hangs = new SymbolSet[ALL_SYMBOLS];
        private final int[] least = new int[ALL_SYMBOLS];
        private final int[] defined = new int[ALL_SYMBOLS];
        private int definedSize = 0;
        private int circleCount = 0;
        private int selfCount = 0;

        Circles() {
            for (int symbol = 0; symbol < ALL_SYMBOLS; symbol++) {
                hangs[symbol] = new SymbolSet();
            }
        }

        int leastOf(int symbol) {
            return symbol >= 0 && symbol < ALL_SYMBOLS ? least[symbol] : NONE;
        }

        int circleCount() {
            return circleCount;
        }

        int selfCount() {
            return selfCount;
        }

        void find(Line[] lines, Symbols symbols) {
            listDefined(symbols);
            gatherReads(lines);
            followOn();
            group();
        }

        private void listDefined(Symbols symbols) {
            definedSize = 0;
            for (int symbol = 0; symbol < ALL_SYMBOLS; symbol++) {
                hangs[symbol].clear();
                least[symbol] = NONE;
                if (symbols.definersOf(symbol) > 0) {
                    defined[definedSize] = symbol;
                    definedSize++;
                }
            }
        }

        private void gatherReads(Line[] lines) {
            for (int place = 0; place < lines.length; place++) {
                Line line = lines[place];
                int symbol = line == null ? NONE : line.defined();
                if (line != null && symbol >= 0 && symbol < ALL_SYMBOLS) {
                    hangs[symbol].addAll(line.symbolsRead());
                }
            }
        }

        private void followOn() {
            for (int m = 0; m < definedSize; m++) {
                int middle = defined[m];
                for (int f = 0; f < definedSize; f++) {
                    int from = defined[f];
                    if (hangs[from].has(middle)) {
                        hangs[from].addAll(hangs[middle]);
                    }
                }
            }
        }

        private void group() {
            circleCount = 0;
            selfCount = 0;
            for (int k = 0; k < definedSize; k++) {
                int symbol = defined[k];
                if (hangs[symbol].has(symbol)) {
                    selfCount++;
                }
                // each circle of two or more has just one second member
                if (findLeast(k, symbol) == 1) {
                    circleCount++;
                }
            }
        }

        /** Answers how many members of its circle are less than the symbol. */
        private int findLeast(int k, int symbol) {
            int lower = 0;
            least[symbol] = symbol;
            for (int j = 0; j < k; j++) {
                int other = defined[j];
                if (hangs[symbol].has(other) && hangs[other].has(symbol)) {
                    if (lower == 0) {
                        least[symbol] = other;
                    }
                    lower++;
                }
            }
            return lower;
        }
    }

    /** All lines, and what is known of them after the last edit. */
    private static final class Workspace {
        /** Each round but the last adds a form to a symbol. */
        private static final int MOST_ROUNDS = ALL_SYMBOLS * Forms.LETTER_COUNT * (Forms.DEEPEST + 1) + 2;

        private final Line[] lines = new Line[ALL_PLACES];
        private final Symbols symbols = new Symbols();
        private final boolean[] looked = new boolean[ALL_PLACES];
        private final boolean[] waiting = new boolean[ALL_PLACES];
        private final SymbolSet touched = new SymbolSet();
        private final int[] touchedInOrder = new int[ALL_SYMBOLS];
        private int touchedSize = 0;
        private final Circles circles = new Circles();
        private boolean circlesAreOld = false;

        Line lineAt(int place) {
            return place >= 0 && place < ALL_PLACES ? lines[place] : null;
        }

        int edit(int place, Line now) {
            if (place < 0 || place >= ALL_PLACES) {
                return 0;
            }
            startLooking();
            leave(lines[place]);
            lines[place] = now;
            enter(now);
            looked[place] = true;
            int looks = 1 + lookOn();
            restartTypes();
            boolean grew = true;
            for (int round = 0; grew && round < MOST_ROUNDS; round++) {
                grew = workOutWaiting();
            }
            findFaults();
            circlesAreOld = true;
            return looks;
        }

        private void startLooking() {
            for (int place = 0; place < ALL_PLACES; place++) {
                looked[place] = false;
            }
            touched.clear();
            touchedSize = 0;
        }

        private void leave(Line before) {
            if (before != null) {
                symbols.addDefiners(before.defined(), -1);
                touch(before.defined());
            }
        }

        private void enter(Line now) {
            if (now != null) {
                symbols.addDefiners(now.defined(), 1);
                touch(now.defined());
            }
        }

        private void touch(int symbol) {
            if (symbol != NONE && !touched.has(symbol) && touchedSize < ALL_SYMBOLS) {
                touched.add(symbol);
                touchedInOrder[touchedSize] = symbol;
                touchedSize++;
            }
        }

        private int lookOn() {
            int looks = 0;
            for (int k = 0; k < touchedSize && k < ALL_SYMBOLS; k++) {
                for (int place = 0; place < ALL_PLACES; place++) {
                    Line line = lines[place];
                    if (line != null && !looked[place] && line.reads(touchedInOrder[k])) {
                        looked[place] = true;
                        looks++;
                        touch(line.defined());
                    }
                }
            }
            return looks;
        }

        /**
         * Symbols of a circle would hold up one another's old forms, so they
         * grow again from nothing; lines not looked at say what they said.
         */
        private void restartTypes() {
            for (int k = 0; k < touchedSize && k < ALL_SYMBOLS; k++) {
                symbols.restart(touchedInOrder[k]);
            }
            for (int place = 0; place < ALL_PLACES; place++) {
                Line line = lines[place];
                waiting[place] = looked[place];
                if (line != null && !looked[place] && touched.has(line.defined())) {
                    symbols.grow(line.defined(), line.says());
                }
            }
        }

        private boolean workOutWaiting() {
            boolean grew = false;
            for (int place = 0; place < ALL_PLACES; place++) {
                Line line = lines[place];
                if (line != null && waiting[place]) {
                    waiting[place] = false;
                    line.workOut(symbols);
                    if (symbols.grow(line.defined(), line.says())) {
                        wakeReaders(line.defined());
                        grew = true;
                    }
                }
            }
            return grew;
        }

        private void wakeReaders(int symbol) {
            for (int place = 0; place < ALL_PLACES; place++) {
                Line line = lines[place];
                if (line != null && line.reads(symbol)) {
                    waiting[place] = true;
                }
            }
        }

        private void findFaults() {
            for (int place = 0; place < ALL_PLACES; place++) {
                Line line = lines[place];
                if (line != null && looked[place]) {
                    line.findFaults(symbols);
                }
            }
        }

        int tellSymbol(int symbol, int what) {
            int definers = symbols.definersOf(symbol);
            switch (what) {
                case 0:
                    return definers == 0 ? NONE : symbols.typeOf(symbol);
                case 1:
                    return definers;
                case 2:
                    return readersOf(symbol);
                default:
                    return definers == 0 ? NONE : freshCircles().leastOf(symbol);
            }
        }

        private int readersOf(int symbol) {
            int found = 0;
            for (int place = 0; place < ALL_PLACES; place++) {
                Line line = lines[place];
                if (line != null && line.reads(symbol)) {
                    found++;
                }
            }
            return found;
        }

        private Circles freshCircles() {
            if (circlesAreOld) {
                circles.find(lines, symbols);
                circlesAreOld = false;
            }
            return circles;
        }

        int tellFault(int k, int what) {
            int left = k;
            for (int place = 0; place < ALL_PLACES; place++) {
                Line line = lines[place];
                if (line != null) {
                    Faults faults = line.faults();
                    if (left < faults.size()) {
                        return tellFaultAt(place, faults, left, what);
                    }
                    left -= faults.size();
                }
            }
            return NONE;
        }

        private static int tellFaultAt(int place, Faults faults, int k, int what) {
            switch (what) {
                case 0:
                    return place / PLACES;
                case 1:
                    return place % PLACES;
                case 2:
                    return faults.placeOf(k);
                default:
                    return faults.codeOf(k);
            }
        }

        int howMany(int what) {
            switch (what) {
                case 0:
                    return faultCount();
                case 1:
                    return symbols.definedCount();
                case 2:
                    return freshCircles().circleCount();
                case 3:
                    return freshCircles().selfCount();
                default:
                    return lineCount();
            }
        }

        private int faultCount() {
            int found = 0;
            for (int place = 0; place < ALL_PLACES; place++) {
                Line line = lines[place];
                if (line != null) {
                    found += line.faults().size();
                }
            }
            return found;
        }

        private int lineCount() {
            int found = 0;
            for (int place = 0; place < ALL_PLACES; place++) {
                if (lines[place] != null) {
                    found++;
                }
            }
            return found;
        }
    }
}
