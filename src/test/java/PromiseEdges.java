/** The boundary cases of the promises 1 to 10: a method for each sentence that names one. */
public final class PromiseEdges {
    private static final int I = 1;
    private static final int S = 4;
    private static final int N = 8;
    private static final int ANY = 16;
    private static final int SYNTAX = CheckDaemon.SYNTAX;
    private static final int UNKNOWN = CheckDaemon.UNKNOWN;
    private static final int LEAST = Integer.MIN_VALUE;
    private static final int MOST = Integer.MAX_VALUE;

    public static void main(String[] args) {
        Due.each(
            PromiseEdges::newLineIsEmpty,
            PromiseEdges::newModulesAreEmpty,
            PromiseEdges::newObjectsShareNothing,
            PromiseEdges::typeFourInEachNumber,
            PromiseEdges::typeByteNone,
            PromiseEdges::typeHighBytes,
            PromiseEdges::typeSixtyAndOneMore,
            PromiseEdges::eraseOfAnEmptyLine,
            PromiseEdges::eraseIsNoEdit,
            PromiseEdges::putFirstAndLastPlace,
            PromiseEdges::putBeyondThePlaces,
            PromiseEdges::putBlanksAlone,
            PromiseEdges::putOverALine,
            PromiseEdges::putEmptiesTheLine,
            PromiseEdges::putLooksAlsoAtNone,
            PromiseEdges::putLooksAtAll,
            PromiseEdges::dropFirstAndLastModule,
            PromiseEdges::dropBeyondTheModules,
            PromiseEdges::dropOfAModuleWithoutLines,
            PromiseEdges::dropOfAFullModule,
            PromiseEdges::undoOfNone,
            PromiseEdges::undoOfAPutThatAltersNothing,
            PromiseEdges::undoSixteen,
            PromiseEdges::undoSixteenAndOneMore,
            PromiseEdges::undoNotBeyondADrop,
            PromiseEdges::undoIsNoPut,
            PromiseEdges::undoLooksAsAnEdit,
            PromiseEdges::undoLeavesTheLine,
            PromiseEdges::symbolEnds,
            PromiseEdges::symbolBeyondItsEnds,
            PromiseEdges::symbolThatNoLineDefines,
            PromiseEdges::symbolReaders,
            PromiseEdges::symbolCircleOfOne,
            PromiseEdges::symbolCircleAcrossModules,
            PromiseEdges::lineEnds,
            PromiseEdges::lineBeyondItsEnds,
            PromiseEdges::lineThatIsNone,
            PromiseEdges::lineThatCannotBeRead,
            PromiseEdges::lineReadsEachOnce,
            PromiseEdges::diagnosticBelowNone,
            PromiseEdges::diagnosticLastAndBeyond,
            PromiseEdges::diagnosticAnotherWhat,
            PromiseEdges::countOfNothing,
            PromiseEdges::countAllPlacesFull,
            PromiseEdges::countAllFaultsAtOnce,
            PromiseEdges::countCirclesOfTwoOrMore,
            PromiseEdges::countHangingOnThemselves,
            PromiseEdges::countBeyondItsEnds);
        Due.end();
    }

    private static void newLineIsEmpty() {
        Due.sentence("1: An empty LINE");
        Due.due("erase", 0, () -> new CheckDaemon().erase());
        Due.due("type of nothing", 0, () -> new CheckDaemon().type(0, 0, 0, 0, 0));
        Due.due("the first character", 1, () -> new CheckDaemon().type(0, 0, 0, 0, 'A'));
        CheckDaemon x = new CheckDaemon();
        Due.due("put looks at that place", 1, () -> x.put(0, 0));
        Due.due("but none stands there", -1, () -> x.line(0, 0, 0));
    }

    private static void newModulesAreEmpty() {
        Due.sentence("1: MODULES without lines");
        CheckDaemon x = new CheckDaemon();
        for (int place = 0; place < 96; place++) {
            int p = place;
            Due.due("line " + p, -1, () -> x.line(p / 12, p % 12, p % 5));
        }
        for (int symbol = 0; symbol < 208; symbol++) {
            int s = symbol;
            Due.due("symbol " + s, -1, () -> x.symbol(s / 26, s % 26, s % 2 * 3));
        }
        for (int module = 0; module < 8; module++) {
            int m = module;
            Due.due("drop " + m, 0, () -> x.drop(m));
        }
    }

    private static void newObjectsShareNothing() {
        Due.sentence("1: A new object");
        CheckDaemon x = Due.with("A=X", "B=B");
        Due.typeIn(x, "C=i");
        CheckDaemon y = new CheckDaemon();
        for (int what = 0; what < 6; what++) {
            int w = what;
            Due.due("count " + w + " beside another object", 0, () -> y.count(w));
        }
        Due.due("its line", 0, y::erase);
        Due.put(y, 0, 0, "A=s");
        Due.due("the other one's A", ANY, () -> x.symbol(0, 0, 0));
        Due.due("the other one's line", 3, x::erase);
    }

    private static void typeFourInEachNumber() {
        Due.sentence("2: four in each number, the highest byte first");
        CheckDaemon x = new CheckDaemon();
        Due.due("twenty", 20, () -> x.type(0x413d427c, 0x437c447c, 0x457c467c, 0x477c487c, 0x497c4a20));
        x.put(0, 0);
        Due.due("A reads nine", 9, () -> x.line(0, 0, 4));
        Due.due("in this order", 2, () -> x.diagnostic(0, 2));
        Due.due("the last of them", 18, () -> x.diagnostic(8, 2));
        CheckDaemon y = new CheckDaemon();
        y.type(0x413d697c, 0, 0, 0, 0);
        Due.due("goes on where it was", 5, () -> y.type(0x73000000, 0, 0, 0, 0));
        y.put(0, 0);
        Due.due("A=i|s", I | S, () -> y.symbol(0, 0, 0));
    }

    private static void typeByteNone() {
        Due.sentence("2: a byte 0 is none");
        int[] shifts = {24, 16, 8, 0};
        for (int shift : shifts) {
            Due.due("one byte, at " + shift, 1, () -> new CheckDaemon().type(0, 0, 'A' << shift, 0, 0));
        }
        CheckDaemon x = new CheckDaemon();
        Due.due("none between", 4, () -> x.type(0x00410000, 0x3d000069, 0, 0x00000021, 0));
        x.put(0, 0);
        Due.due("A=i! stands", I, () -> x.symbol(0, 0, 0));
        Due.due("with four characters", 4, () -> x.line(0, 0, 0));
    }

    private static void typeHighBytes() {
        Due.sentence("2: bytes of 128 and more are characters");
        Due.due("twenty of 255", 20, () -> new CheckDaemon().type(-1, -1, -1, -1, -1));
        Due.due("one of 128", 1, () -> new CheckDaemon().type(0x80000000, 0, 0, 0, 0));
        Due.due("four of 128", 4, () -> new CheckDaemon().type(0, 0, 0, 0, 0x80808080));
        CheckDaemon x = new CheckDaemon();
        x.type(0x41bde900, 0, 0, 0, 0);
        Due.due("put", 1, () -> x.put(0, 0));
        Due.allTold(x, 0, 0, 1, SYNTAX);
        CheckDaemon y = new CheckDaemon();
        y.type(0xc13d6900, 0, 0, 0, 0);
        y.put(0, 0);
        Due.allTold(y, 0, 0, 0, SYNTAX);
        Due.cannotGoOn("=\u00e9", 1);
        Due.cannotGoOn("=i\u00a0", 2);
        Due.cannotGoOn("\u0080=i", 0);
        Due.cannotGoOn("=i\u00ff", 2);
    }

    private static void typeSixtyAndOneMore() {
        Due.sentence("2: IllegalState: it would have more than 60");
        CheckDaemon x = new CheckDaemon();
        Due.typeIn(x, "A=i" + " ".repeat(38));
        Due.noState("41 and 20", () -> x.type(-1, -1, -1, -1, -1));
        Due.due("it has 41", 41, () -> x.type(0, 0, 0, 0, 0));
        Due.due("41 and 19", 60, () -> x.type(0x20202020, 0x20202020, 0x20202020, 0x20202020, 0x202020));
        Due.due("60 and none", 60, () -> x.type(0, 0, 0, 0, 0));
        Due.noState("60 and one, the highest byte", () -> x.type(0x20000000, 0, 0, 0, 0));
        Due.noState("60 and one, the lowest byte", () -> x.type(0, 0, 0, 0, 0x20));
        Due.noState("60 and twenty", () -> x.type(-1, -1, -1, -1, -1));
        Due.due("put", 1, () -> x.put(0, 0));
        Due.due("it stands", 60, () -> x.line(0, 0, 0));
        Due.due("unharmed", I, () -> x.symbol(0, 0, 0));
        Due.typeIn(x, " ".repeat(59));
        Due.noState("59 and two, not beside one another", () -> x.type(0x20000020, 0, 0, 0, 0));
        Due.noState("59 and one in each of two numbers", () -> x.type(0x20000000, 0, 0, 0, 0x20000000));
        Due.due("59 and one, bytes 0 around it", 60, () -> x.type(0, 0, 0x00200000, 0, 0));
        Due.noState("60 and one of 128", () -> x.type(0, 0, 0x80000000, 0, 0));
        Due.noState("60 and one of 128, the lowest byte", () -> x.type(0, 0, 0x80, 0, 0));
        x.put(0, 1);
        Due.due("after a put there is room", 20, () -> x.type(-1, -1, -1, -1, -1));
    }

    private static void eraseOfAnEmptyLine() {
        Due.sentence("3: THE LINE is empty: how many it had");
        CheckDaemon x = new CheckDaemon();
        Due.due("of an empty one", 0, x::erase);
        Due.typeIn(x, " ");
        Due.due("of one blank", 1, x::erase);
        Due.due("again", 0, x::erase);
        Due.typeIn(x, "A".repeat(60));
        Due.due("of sixty", 60, x::erase);
        Due.due("empty", 0, () -> x.type(0, 0, 0, 0, 0));
        Due.put(x, 0, 0, "B=i");
        Due.due("after a put", 0, x::erase);
        Due.due("nothing of what was erased", 3, () -> x.line(0, 0, 0));
    }

    private static void eraseIsNoEdit() {
        Due.sentence("3: erase is told as no edit");
        CheckDaemon x = Due.with("A=i", "B=");
        Due.typeIn(x, "C=i");
        x.erase();
        Due.due("undos", 2, () -> x.count(5));
        Due.due("lines", 2, () -> x.count(4));
        Due.due("A", I, () -> x.symbol(0, 0, 0));
        Due.due("a put of it then", 1, () -> x.put(0, 2));
        Due.due("is none", -1, () -> x.line(0, 2, 0));
    }

    private static void putFirstAndLastPlace() {
        Due.sentence("4: THE LINE stands at this place from now on");
        int[][] corners = {{0, 0}, {0, 11}, {7, 0}, {7, 11}};
        for (int[] at : corners) {
            CheckDaemon x = new CheckDaemon();
            Due.due("put", 1, () -> Due.put(x, at[0], at[1], "Z=s"));
            Due.due("its length", 3, () -> x.line(at[0], at[1], 0));
            Due.due("its symbol is of its module", S, () -> x.symbol(at[0], 25, 0));
            Due.due("one line", 1, () -> x.count(4));
        }
    }

    private static void putBeyondThePlaces() {
        Due.sentence("4: IllegalArgument");
        int[][] beyond = {{-1, 0}, {8, 0}, {0, -1}, {0, 12}, {-1, 12}, {-1, 23}, {8, -1}, {1, -12}, {7, 12}, {8, 12}, {-1, -1},
            {LEAST, 0}, {MOST, 0}, {0, LEAST}, {0, MOST}, {LEAST, LEAST}, {MOST, MOST}, {357913942, -8}, {357913942, 0}, {1 << 30, 0}};
        for (int[] at : beyond) {
            CheckDaemon x = Due.with("A=i");
            Due.typeIn(x, "B=s");
            Due.noArgument("put " + at[0] + " " + at[1], () -> x.put(at[0], at[1]));
            Due.due("THE LINE is as it was", 3, () -> x.type(0, 0, 0, 0, 0));
            Due.due("no undo more", 1, () -> x.count(5));
            Due.due("no line more", 1, () -> x.count(4));
            Due.due("and it can be put", 1, () -> x.put(0, 1));
            Due.due("whole", S, () -> x.symbol(0, 1, 0));
        }
    }

    private static void putBlanksAlone() {
        Due.sentence("4: none, if it has no characters but blanks");
        for (int blanks = 0; blanks <= 60; blanks += 20) {
            CheckDaemon x = Due.with("A=i", "=A");
            Due.typeIn(x, " ".repeat(blanks));
            Due.due(blanks + " blanks: put", 2, () -> x.put(0, 0));
            Due.due(blanks + " blanks: none stands", -1, () -> x.line(0, 0, 0));
            Due.due(blanks + " blanks: lines", 1, () -> x.count(4));
            Due.due(blanks + " blanks: undos", 3, () -> x.count(5));
            Due.due(blanks + " blanks: then empty", 0, x::erase);
            Due.allTold(x, 0, 1, 1, UNKNOWN);
        }
        CheckDaemon y = Due.with(" ".repeat(59) + "!");
        Due.due("one other character behind them", 60, () -> y.line(0, 0, 0));
    }

    private static void putOverALine() {
        Due.sentence("4: a LINE over a line that was there");
        CheckDaemon x = Due.with("A=i", "=A", "=B");
        Due.due("over itself", 2, () -> Due.put(x, 0, 0, "A=i"));
        Due.due("over another", 3, () -> Due.put(x, 0, 0, "B:s =[B]"));
        Due.due("lines", 3, () -> x.count(4));
        Due.due("A is gone", -1, () -> x.symbol(0, 0, 0));
        Due.due("B", S, () -> x.symbol(0, 1, 0));
        Due.due("its length", 8, () -> x.line(0, 0, 0));
        Due.due("it reads B", 2, () -> x.symbol(0, 1, 2));
        Due.allTold(x, 0, 0, 4, CheckDaemon.MISMATCH, 0, 1, 1, UNKNOWN);
        Due.due("over one that can be read", 2, () -> Due.put(x, 0, 0, "B:"));
        Due.allTold(x, 0, 0, 2, SYNTAX, 0, 1, 1, UNKNOWN, 0, 2, 1, UNKNOWN);
        Due.due("over one that cannot", 2, () -> Due.put(x, 0, 0, "A=n"));
        Due.allTold(x, 0, 2, 1, UNKNOWN);
        Due.due("what reads A", N, () -> x.line(0, 1, 2));
    }

    private static void putEmptiesTheLine() {
        Due.sentence("4: and is empty then");
        CheckDaemon x = Due.with("A=i");
        Due.due("type of nothing", 0, () -> x.type(0, 0, 0, 0, 0));
        Due.due("put again", 1, () -> x.put(0, 0));
        Due.due("is none", -1, () -> x.line(0, 0, 0));
        Due.put(x, 0, 1, "A=");
        Due.due("also one that cannot be read", 0, x::erase);
        Due.typeIn(x, "A=i|i|i");
        Due.typeIn(x, "|s");
        x.put(1, 0);
        Due.put(x, 1, 1, "B");
        Due.due("a shorter one after it", 1, () -> x.line(1, 1, 0));
    }

    private static void putLooksAlsoAtNone() {
        Due.sentence("4: how many lines were LOOKED AT (this one also if there is none now)");
        CheckDaemon x = Due.with("A=A", "B=A");
        Due.due("none over none", 1, () -> x.put(7, 11));
        Due.due("none over a line that reads itself", 2, () -> x.put(0, 0));
        Due.due("none over none again", 1, () -> x.put(0, 0));
        Due.due("a line over none", 2, () -> Due.put(x, 0, 0, "A=A"));
        Due.due("one that cannot be read over it", 2, () -> Due.put(x, 0, 0, "A=A+"));
        Due.due("none over one that cannot be read", 1, () -> x.put(0, 0));
    }

    private static void putLooksAtAll() {
        Due.sentence("4: all lines LOOKED AT");
        CheckDaemon x = new CheckDaemon();
        for (int place = 0; place < 95; place++) {
            int next = place + 1;
            Due.put(x, place / 12, place % 12, (char) ('A' + place % 12) + "=" + next / 12 + "." + (char) ('A' + next % 12));
        }
        Due.due("the last of a chain", 96, () -> Due.put(x, 7, 11, "L=i"));
        Due.due("the first has it", I, () -> x.symbol(0, 0, 0));
        Due.due("the first", 1, () -> Due.put(x, 0, 0, "A=0.B"));
        Due.due("the last closes a circle", 96, () -> Due.put(x, 7, 11, "L=[0.A]|n"));
        Due.due("round it", N * 0x8421 | ANY << 15, () -> x.symbol(3, 5, 0));
        Due.due("one of it gone", 96, () -> x.put(3, 5));
        Due.due("what reads it has ?", ANY, () -> x.symbol(3, 4, 0));
        Due.due("and what is behind it a list of that", N | ANY << 5, () -> x.symbol(3, 6, 0));
        Due.due("back by an undo", 96, x::undo);
        Due.due("round it again", N * 0x8421 | ANY << 15, () -> x.symbol(3, 5, 0));
    }

    private static void dropFirstAndLastModule() {
        Due.sentence("5: all its lines are gone: how many there were");
        CheckDaemon x = new CheckDaemon();
        int[] modules = {0, 1, 6, 7};
        for (int module : modules) {
            Due.put(x, module, 0, "A=7.A");
            Due.put(x, module, 11, "A=");
            Due.put(x, module, 5, "=0.A");
        }
        Due.due("the first", 3, () -> x.drop(0));
        Due.due("lines", 9, () -> x.count(4));
        Due.due("the next one's first line stays", 5, () -> x.line(1, 0, 0));
        Due.due("unknown now", UNKNOWN, () -> x.diagnostic(0, 3));
        Due.due("the last", 3, () -> x.drop(7));
        Due.due("lines", 6, () -> x.count(4));
        Due.due("the last one's last line stays", 2, () -> x.line(6, 11, 0));
        Due.due("what hung on it is ?", ANY, () -> x.symbol(6, 0, 0));
        Due.due("symbols", 2, () -> x.count(1));
        Due.allTold(x, 1, 0, 2, UNKNOWN, 1, 5, 1, UNKNOWN, 1, 11, 2, SYNTAX, 6, 0, 2, UNKNOWN, 6, 5, 1, UNKNOWN, 6, 11, 2, SYNTAX);
    }

    private static void dropBeyondTheModules() {
        Due.sentence("5: IllegalArgument");
        int[] beyond = {-1, 8, 9, -8, LEAST, MOST, 357913942, 1 << 30};
        CheckDaemon x = Due.with("A=i", "B=A");
        Due.typeIn(x, "C");
        for (int module : beyond) {
            Due.noArgument("drop " + module, () -> x.drop(module));
            Due.due("lines", 2, () -> x.count(4));
            Due.due("undos", 2, () -> x.count(5));
        }
        Due.due("THE LINE", 1, x::erase);
        Due.due("undo", 1, x::undo);
    }

    private static void dropOfAModuleWithoutLines() {
        Due.sentence("5: of a MODULE without lines");
        CheckDaemon x = Due.with("A=i");
        Due.due("none", 0, () -> x.drop(3));
        Due.due("the others stay", 1, () -> x.count(4));
        Due.noState("no undo beyond this drop either", x::undo);
        Due.due("one", 1, () -> x.drop(0));
        Due.due("again none", 0, () -> x.drop(0));
        Due.put(x, 2, 0, "A=i");
        x.put(2, 0);
        Due.due("none any more", 0, () -> x.drop(2));
    }

    private static void dropOfAFullModule() {
        Due.sentence("5: from place 0 on, one after the other");
        CheckDaemon x = new CheckDaemon();
        for (int line = 0; line < 12; line++) {
            Due.put(x, 4, line, (char) ('A' + line) + "=" + (char) ('A' + (line + 1) % 12) + "|i");
        }
        Due.put(x, 5, 0, "=4.A|4.L");
        Due.typeIn(x, "A=s");
        Due.due("twelve", 12, () -> x.drop(4));
        Due.due("one line", 1, () -> x.count(4));
        Due.due("no symbols", 0, () -> x.count(1));
        Due.due("no circles", 0, () -> x.count(2));
        Due.allTold(x, 5, 0, 1, UNKNOWN, 5, 0, 5, UNKNOWN);
        Due.due("what read them", ANY, () -> x.line(5, 0, 2));
        Due.due("THE LINE stays, and is put", 2, () -> x.put(4, 0));
        Due.due("what reads it", S | ANY, () -> x.line(5, 0, 2));
    }

    private static void undoOfNone() {
        Due.sentence("6: IllegalState: there is none");
        CheckDaemon x = new CheckDaemon();
        Due.noState("new", x::undo);
        Due.typeIn(x, "A=i");
        Due.noState("typed is not put", x::undo);
        Due.noArgument("a put that throws", () -> x.put(0, 12));
        Due.noState("is none", x::undo);
        Due.due("THE LINE", 1, () -> x.put(0, 0));
        Due.due("one", 1, x::undo);
        Due.noState("no more", x::undo);
        Due.noState("nor now", x::undo);
        Due.due("lines", 0, () -> x.count(4));
    }

    private static void undoOfAPutThatAltersNothing() {
        Due.sentence("6: the last put (each, also one that alters nothing)");
        CheckDaemon x = Due.with("A=i", "=A", "=A");
        Due.put(x, 0, 0, "A=i");
        Due.put(x, 6, 6, "");
        Due.put(x, 6, 6, "  ");
        Due.due("undos", 6, () -> x.count(5));
        Due.due("none over none", 1, x::undo);
        Due.due("none over none, too", 1, x::undo);
        Due.due("the same over itself", 3, x::undo);
        Due.due("lines", 3, () -> x.count(4));
        Due.due("A", I, () -> x.symbol(0, 0, 0));
        Due.due("then the third", 1, x::undo);
        Due.due("lines", 2, () -> x.count(4));
        Due.due("undos", 2, () -> x.count(5));
    }

    private static void undoSixteen() {
        Due.sentence("6: the last put but one, with the next undo, and so on, at most sixteen");
        CheckDaemon x = new CheckDaemon();
        for (int k = 1; k <= 16; k++) {
            Due.put(x, 0, 0, "=" + "i|".repeat(k) + "i");
        }
        Due.due("undos", 16, () -> x.count(5));
        for (int k = 15; k >= 1; k--) {
            int left = k;
            Due.due("undo", 1, x::undo);
            Due.due("put " + k + " stands", 2 * left + 2, () -> x.line(0, 0, 0));
            Due.due("undos", left, () -> x.count(5));
        }
        Due.due("the sixteenth", 1, x::undo);
        Due.due("back to none", -1, () -> x.line(0, 0, 0));
        Due.noState("no more", x::undo);
    }

    private static void undoSixteenAndOneMore() {
        Due.sentence("6: sixteen and one more");
        CheckDaemon x = new CheckDaemon();
        for (int k = 1; k <= 17; k++) {
            Due.put(x, 0, 0, "=" + "i|".repeat(k) + "i");
        }
        Due.due("undos", 16, () -> x.count(5));
        for (int k = 0; k < 16; k++) {
            Due.due("undo " + k, 1, x::undo);
        }
        Due.due("the first put stands", 4, () -> x.line(0, 0, 0));
        Due.noState("it is not undone", x::undo);
        Due.due("and stands", 4, () -> x.line(0, 0, 0));
        Due.put(x, 0, 1, "A=i");
        Due.due("a put after that", 1, () -> x.count(5));
        Due.due("is undone", 1, x::undo);
        Due.noState("it alone", x::undo);
        CheckDaemon y = new CheckDaemon();
        for (int k = 0; k < 40; k++) {
            Due.put(y, k % 8, k % 12, "A=i");
        }
        y.undo();
        Due.due("fifteen", 15, () -> y.count(5));
        Due.put(y, 0, 0, "A=i");
        Due.due("sixteen", 16, () -> y.count(5));
        Due.put(y, 0, 0, "A=i");
        Due.due("sixteen still", 16, () -> y.count(5));
    }

    private static void undoNotBeyondADrop() {
        Due.sentence("6: not beyond a drop");
        CheckDaemon x = Due.with("A=i", "B=A");
        Due.put(x, 1, 0, "C=0.B");
        x.drop(0);
        Due.due("undos", 0, () -> x.count(5));
        Due.noState("none, also of another module", x::undo);
        Due.due("that one stays", 5, () -> x.line(1, 0, 0));
        Due.put(x, 0, 0, "B=s");
        Due.due("a put after it", 1, () -> x.count(5));
        Due.due("its undo", 2, x::undo);
        Due.due("none stands, as after the drop", -1, () -> x.line(0, 0, 0));
        Due.noState("no further", x::undo);
        Due.due("lines", 1, () -> x.count(4));
    }

    private static void undoIsNoPut() {
        Due.sentence("6: as another edit, which is no put");
        CheckDaemon x = Due.with("A=i");
        Due.put(x, 0, 0, "A=s");
        Due.put(x, 0, 0, "A=n");
        x.undo();
        Due.due("A as before the last", S, () -> x.symbol(0, 0, 0));
        x.undo();
        Due.due("the next goes further, not back", I, () -> x.symbol(0, 0, 0));
        Due.due("undos", 1, () -> x.count(5));
        Due.put(x, 0, 0, "A=f");
        Due.due("undos", 2, () -> x.count(5));
        x.undo();
        Due.due("A as the undo left it", I, () -> x.symbol(0, 0, 0));
        x.undo();
        Due.due("none", -1, () -> x.symbol(0, 0, 0));
        Due.noState("no more", x::undo);
    }

    private static void undoLooksAsAnEdit() {
        Due.sentence("6: how many lines were LOOKED AT");
        CheckDaemon x = Due.with("A=i", "=A", "=B", "=B", "B=s");
        Due.put(x, 0, 0, "B=n");
        Due.put(x, 0, 0, "C=");
        Due.due("unreadable to B", 3, x::undo);
        Due.due("B", S | N, () -> x.symbol(0, 1, 0));
        Due.due("B to A", 4, x::undo);
        Due.due("B", S, () -> x.symbol(0, 1, 0));
        Due.due("B to none", 3, x::undo);
        Due.due("what reads B", ANY, () -> x.line(0, 2, 2));
        Due.allTold(x, 0, 2, 1, UNKNOWN, 0, 3, 1, UNKNOWN);
    }

    private static void undoLeavesTheLine() {
        Due.sentence("6: The line stands as it was before that, THE LINE is not told of");
        CheckDaemon x = Due.with("A=i");
        Due.put(x, 0, 0, " A : s | n = [ i ");
        Due.put(x, 0, 0, "");
        Due.typeIn(x, "Q=");
        Due.due("undo", 1, x::undo);
        Due.due("its length", 17, () -> x.line(0, 0, 0));
        Due.allTold(x, 0, 0, 17, SYNTAX);
        Due.due("undo", 1, x::undo);
        Due.due("its length", 3, () -> x.line(0, 0, 0));
        Due.due("A", I, () -> x.symbol(0, 0, 0));
        Due.due("THE LINE", 2, x::erase);
    }

    private static void symbolEnds() {
        Due.sentence("7: Of a SYMBOL 0 .. 25");
        CheckDaemon x = new CheckDaemon();
        int[][] ends = {{0, 0}, {0, 25}, {7, 0}, {7, 25}};
        for (int[] at : ends) {
            String name = at[0] + "." + (char) ('A' + at[1]);
            Due.put(x, at[0], 0, (char) ('A' + at[1]) + "=s|" + name);
            Due.due(name + " type", S, () -> x.symbol(at[0], at[1], 0));
            Due.due(name + " definers", 1, () -> x.symbol(at[0], at[1], 1));
            Due.due(name + " readers", 1, () -> x.symbol(at[0], at[1], 2));
            Due.due(name + " circle", 26 * at[0] + at[1], () -> x.symbol(at[0], at[1], 3));
        }
    }

    private static void symbolBeyondItsEnds() {
        Due.sentence("7: IllegalArgument");
        int[][] beyond = {{-1, 0, 0}, {8, 0, 0}, {0, -1, 0}, {0, 26, 0}, {0, 0, -1}, {0, 0, 4}, {-1, 26, 0}, {1, -26, 0}, {7, 26, 3}, {8, -1, 1},
            {LEAST, 0, 0}, {MOST, 0, 0}, {0, LEAST, 0}, {0, MOST, 0}, {0, 0, LEAST}, {0, 0, MOST}, {MOST, MOST, MOST}, {165191050, -4, 0}, {1 << 31, 0, 0}};
        CheckDaemon x = Due.with("A=i");
        for (int[] at : beyond) {
            Due.noArgument("symbol " + at[0] + " " + at[1] + " " + at[2], () -> x.symbol(at[0], at[1], at[2]));
        }
        Due.due("A", I, () -> x.symbol(0, 0, 0));
    }

    private static void symbolThatNoLineDefines() {
        Due.sentence("7: NONE if no line defines it");
        CheckDaemon x = Due.with("A=B|B", "B=B)", "C=7.Z", "=C");
        int[][] undefined = {{0, 1, 1}, {7, 25, 1}, {0, 3, 0}};
        for (int[] at : undefined) {
            Due.due("type", -1, () -> x.symbol(at[0], at[1], 0));
            Due.due("definers", 0, () -> x.symbol(at[0], at[1], 1));
            Due.due("readers", at[2], () -> x.symbol(at[0], at[1], 2));
            Due.due("circle", -1, () -> x.symbol(at[0], at[1], 3));
        }
        Due.put(x, 0, 1, "B=n!");
        Due.due("defined with nothing: type", 0, () -> x.symbol(0, 1, 0));
        Due.due("circle", 1, () -> x.symbol(0, 1, 3));
        x.undo();
        Due.due("undefined again: type", -1, () -> x.symbol(0, 1, 0));
        Due.due("circle", -1, () -> x.symbol(0, 1, 3));
    }

    private static void symbolReaders() {
        Due.sentence("7: how many lines READ it");
        CheckDaemon x = Due.with("A:A=i", "A=A+A|A", "=0.A", "B:i=A&i", "A", "=A|", "A:i=i");
        Due.put(x, 1, 0, "A=A");
        Due.due("each line once, not its head, not what cannot be read", 3, () -> x.symbol(0, 0, 2));
        Due.due("of the other module", 1, () -> x.symbol(1, 0, 2));
        Due.due("none", 0, () -> x.symbol(0, 1, 2));
        CheckDaemon y = new CheckDaemon();
        for (int place = 0; place < 96; place++) {
            Due.put(y, place / 12, place % 12, "=3.M");
        }
        Due.due("all lines", 96, () -> y.symbol(3, 12, 2));
    }

    private static void symbolCircleOfOne() {
        Due.sentence("7: the least SYMBOL of its CIRCLE, of one");
        CheckDaemon x = Due.with("A=i", "B=B", "C=A|B|X", "X:s=C)");
        Due.put(x, 7, 0, "Z=Z|0.A");
        Due.due("it hangs on nothing", 0, () -> x.symbol(0, 0, 3));
        Due.due("it hangs on itself", 1, () -> x.symbol(0, 1, 3));
        Due.due("it hangs on others", 2, () -> x.symbol(0, 2, 3));
        Due.due("the last symbol", 207, () -> x.symbol(7, 25, 3));
        Due.due("circles of two", 0, () -> x.count(2));
    }

    private static void symbolCircleAcrossModules() {
        Due.sentence("7: as 26 times the MODULE and itself");
        CheckDaemon x = new CheckDaemon();
        Due.put(x, 7, 11, "A=6.Z");
        Due.put(x, 6, 0, "Z:n=7.A");
        Due.due("the least is of the lesser module", 181, () -> x.symbol(7, 0, 3));
        Due.due("itself", 181, () -> x.symbol(6, 25, 3));
        Due.put(x, 6, 1, "Z=2.C");
        Due.put(x, 2, 0, "C=7.A");
        Due.due("one more in it, and less", 54, () -> x.symbol(7, 0, 3));
        Due.due("and it", 54, () -> x.symbol(2, 2, 3));
        x.put(6, 0);
        Due.due("without one of its ways it holds", 54, () -> x.symbol(6, 25, 3));
        x.put(2, 0);
        Due.due("without the other it does not", 181, () -> x.symbol(6, 25, 3));
        Due.due("each by itself", 182, () -> x.symbol(7, 0, 3));
    }

    private static void lineEnds() {
        Due.sentence("8: Of a line");
        int[][] ends = {{0, 0}, {0, 11}, {7, 0}, {7, 11}};
        int[] want = {9, 1, S | ANY, 1, 2};
        for (int[] at : ends) {
            CheckDaemon x = new CheckDaemon();
            Due.put(x, at[0], at[1], "B=s|B|Q|B");
            for (int what = 0; what < 5; what++) {
                int w = what;
                Due.due("line " + at[0] + " " + at[1] + " " + w, want[w], () -> x.line(at[0], at[1], w));
            }
        }
    }

    private static void lineBeyondItsEnds() {
        Due.sentence("8: IllegalArgument");
        int[][] beyond = {{-1, 0, 0}, {8, 0, 0}, {0, -1, 0}, {0, 12, 0}, {0, 0, -1}, {0, 0, 5}, {-1, 12, 0}, {1, -12, 0}, {7, 12, 4}, {8, -1, 1},
            {LEAST, 0, 0}, {MOST, 0, 0}, {0, LEAST, 0}, {0, MOST, 0}, {0, 0, LEAST}, {0, 0, MOST}, {MOST, MOST, MOST}, {357913942, -8, 0},
            {5, 5, 5}, {5, 5, -1}};
        CheckDaemon x = Due.with("A=i");
        for (int[] at : beyond) {
            Due.noArgument("line " + at[0] + " " + at[1] + " " + at[2], () -> x.line(at[0], at[1], at[2]));
        }
        Due.due("A", 3, () -> x.line(0, 0, 0));
    }

    private static void lineThatIsNone() {
        Due.sentence("8: NONE if there is none there; the others, too");
        CheckDaemon x = Due.with("A=A", "A=A");
        x.put(0, 1);
        Due.put(x, 0, 2, "    ");
        for (int what = 0; what < 5; what++) {
            int w = what;
            Due.due("never there, what " + w, -1, () -> x.line(7, 11, w));
            Due.due("there no more, what " + w, -1, () -> x.line(0, 1, w));
            Due.due("blanks, what " + w, -1, () -> x.line(0, 2, w));
        }
        x.drop(0);
        for (int what = 0; what < 5; what++) {
            int w = what;
            Due.due("dropped, what " + w, -1, () -> x.line(0, 0, w));
        }
    }

    private static void lineThatCannotBeRead() {
        Due.sentence("8: 2 and 4 are NONE if it cannot be read");
        int[] want = {7, 0, -1, 1, -1};
        CheckDaemon x = Due.with("A=A|B|)", "A:s=i| ", "!!!!!!!");
        for (int place = 0; place < 15; place++) {
            int line = place / 5;
            int what = place % 5;
            Due.due("line " + line + ", what " + what, want[what], () -> x.line(0, line, what));
        }
        Due.put(x, 0, 0, "A=n!");
        int[] read = {4, 1, 0, 0, 0};
        for (int what = 0; what < 5; what++) {
            int w = what;
            Due.due("one that can be read, with nothing, what " + w, read[w], () -> x.line(0, 0, w));
        }
    }

    private static void lineReadsEachOnce() {
        Due.sentence("8: how many SYMBOLS it READS (each once)");
        String[] texts = {"A=i", "A=A", "A=A|A+A|0.A", "B=A|1.A|7.A|B", "=(C)|[C]|C!|C[]|C&i|0 . C", "A:i=n"};
        int[] reads = {0, 1, 1, 4, 1, 0};
        CheckDaemon x = Due.with(texts);
        for (int line = 0; line < texts.length; line++) {
            int l = line;
            Due.due(texts[l], reads[l], () -> x.line(0, l, 4));
        }
        Due.put(x, 7, 0, "A=A|B|C|D|E|F|G|H|I|J|K|L|M|N|O|P|Q|R|S|T|U|V|W|X|Y|Z|A|B|C!");
        Due.due("all of a module", 26, () -> x.line(7, 0, 4));
    }

    private static void diagnosticBelowNone() {
        Due.sentence("9: Of DIAGNOSTIC k, from 0 on; NONE if there is none such");
        int[] below = {-1, -2, LEAST, LEAST + 1, MOST, MOST - 1, 1, 1 << 16, 1 << 31};
        CheckDaemon x = Due.with("=X");
        for (int k : below) {
            for (int what = 0; what < 4; what++) {
                int w = what;
                Due.due("diagnostic " + k + " " + w, -1, () -> x.diagnostic(k, w));
            }
        }
        Due.due("the first", UNKNOWN, () -> x.diagnostic(0, 3));
        for (int what = 0; what < 4; what++) {
            int w = what;
            Due.due("0 of none", -1, () -> new CheckDaemon().diagnostic(0, w));
        }
    }

    private static void diagnosticLastAndBeyond() {
        Due.sentence("9: the last k and one beyond it");
        CheckDaemon x = Due.with("=i", "=X|Y", "=i");
        Due.put(x, 7, 11, "=n+n|X");
        Due.allTold(x, 0, 1, 1, UNKNOWN, 0, 1, 3, UNKNOWN, 7, 11, 2, CheckDaemon.NOSUM, 7, 11, 5, UNKNOWN);
        for (int what = 0; what < 4; what++) {
            int w = what;
            Due.due("one beyond, what " + w, -1, () -> x.diagnostic(4, w));
        }
        x.put(7, 11);
        Due.due("the last now", 3, () -> x.diagnostic(1, 2));
        Due.due("one beyond now", -1, () -> x.diagnostic(2, 2));
    }

    private static void diagnosticAnotherWhat() {
        Due.sentence("9: IllegalArgument: another what");
        int[] whats = {-1, 4, 5, LEAST, MOST};
        int[] ks = {0, 1, -1, LEAST, MOST};
        CheckDaemon x = Due.with("=X");
        for (int what : whats) {
            for (int k : ks) {
                Due.noArgument("diagnostic " + k + " " + what, () -> x.diagnostic(k, what));
                Due.noArgument("of none, diagnostic " + k + " " + what, () -> new CheckDaemon().diagnostic(k, what));
            }
        }
    }

    private static void counts(CheckDaemon x, int... want) {
        for (int what = 0; what < 6; what++) {
            int w = what;
            Due.due("count " + w, want[w], () -> x.count(w));
        }
    }

    private static void countOfNothing() {
        Due.sentence("10: nothing there yet, or any more");
        CheckDaemon x = new CheckDaemon();
        counts(x, 0, 0, 0, 0, 0, 0);
        Due.typeIn(x, "A=A|X");
        counts(x, 0, 0, 0, 0, 0, 0);
        x.put(0, 0);
        counts(x, 1, 1, 0, 1, 1, 1);
        x.put(0, 0);
        counts(x, 0, 0, 0, 0, 0, 2);
        x.undo();
        counts(x, 1, 1, 0, 1, 1, 1);
        x.drop(0);
        counts(x, 0, 0, 0, 0, 0, 0);
    }

    private static void countAllPlacesFull() {
        Due.sentence("10: all places full");
        CheckDaemon x = new CheckDaemon();
        for (int place = 0; place < 96; place++) {
            char name = (char) ('A' + place % 12);
            char other = (char) ('A' + (place % 12 ^ 1));
            Due.put(x, place / 12, place % 12, name + "=" + other);
        }
        counts(x, 0, 96, 48, 96, 96, 16);
        Due.put(x, 7, 11, "L=L|Z");
        counts(x, 1, 96, 47, 95, 96, 16);
        x.drop(7);
        counts(x, 0, 84, 42, 84, 84, 0);
    }

    private static void countAllFaultsAtOnce() {
        Due.sentence("10: as many DIAGNOSTICS as there can be UNKNOWN ones");
        CheckDaemon x = new CheckDaemon();
        for (int place = 0; place < 96; place++) {
            Due.put(x, place / 12, place % 12, "=Z" + "|Z".repeat(29));
        }
        counts(x, 2880, 0, 0, 0, 96, 16);
        int[] last = {7, 11, 59, UNKNOWN};
        for (int what = 0; what < 4; what++) {
            int w = what;
            Due.due("the last, what " + w, last[w], () -> x.diagnostic(2879, w));
            Due.due("one beyond, what " + w, -1, () -> x.diagnostic(2880, w));
        }
        Due.due("line of 30", 30, () -> x.line(3, 3, 3));
        Due.due("line of number 30", 1, () -> x.diagnostic(30, 1));
        Due.due("place of number 29", 59, () -> x.diagnostic(29, 2));
    }

    private static void countCirclesOfTwoOrMore() {
        Due.sentence("10: CIRCLES of two or more SYMBOLS");
        CheckDaemon x = Due.with("A=A", "B=C", "C=B", "D=E|A", "E=F", "F:i=D", "G=B");
        counts(x, 0, 7, 2, 6, 7, 7);
        Due.put(x, 0, 7, "A=G|F");
        counts(x, 0, 7, 2, 6, 8, 8);
        Due.put(x, 0, 8, "C=D");
        counts(x, 0, 7, 1, 7, 9, 9);
    }

    private static void countHangingOnThemselves() {
        Due.sentence("10: SYMBOLS that hang on themselves");
        CheckDaemon x = Due.with("A=A", "B=A", "C=0.C", "D=1.D", "E=F", "F=E", "=G");
        counts(x, 2, 6, 1, 4, 7, 7);
        Due.put(x, 1, 0, "D=0.D");
        counts(x, 1, 7, 2, 6, 8, 8);
        Due.put(x, 0, 0, "A=A)");
        counts(x, 3, 6, 2, 5, 8, 9);
    }

    private static void countBeyondItsEnds() {
        Due.sentence("10: IllegalArgument: another what");
        int[] whats = {-1, 6, 7, LEAST, MOST};
        CheckDaemon x = Due.with("A=X");
        for (int what : whats) {
            Due.noArgument("count " + what, () -> x.count(what));
            Due.noArgument("of nothing, count " + what, () -> new CheckDaemon().count(what));
        }
        counts(x, 1, 1, 0, 0, 1, 1);
    }
}
