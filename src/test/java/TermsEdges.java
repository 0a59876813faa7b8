/** The boundary cases that the document names under "Terms": a method for each sentence. */
public final class TermsEdges {
    private static final int I = 1;
    private static final int F = 2;
    private static final int S = 4;
    private static final int N = 8;
    private static final int ANY = 16;
    private static final int SYNTAX = CheckDaemon.SYNTAX;
    private static final int UNKNOWN = CheckDaemon.UNKNOWN;
    private static final int NOLIST = CheckDaemon.NOLIST;
    private static final int NOSUM = CheckDaemon.NOSUM;
    private static final int MISMATCH = CheckDaemon.MISMATCH;

    public static void main(String[] args) {
        Due.each(
            TermsEdges::atMostSixtyCharacters,
            TermsEdges::modulesAndPlaces,
            TermsEdges::blanksCountForNothing,
            TermsEdges::thirtyTwoAlone,
            TermsEdges::letterOfASymbol,
            TermsEdges::kindsOfLines,
            TermsEdges::fromTheLeftOn,
            TermsEdges::anyEndings,
            TermsEdges::narrowingLetters,
            TermsEdges::digitOfAModule,
            TermsEdges::twelveWithinOneAnother,
            TermsEdges::anotherCannotBeThere,
            TermsEdges::typeWordListsThreeTimes,
            TermsEdges::typeWordOneOrMore,
            TermsEdges::formNumbers,
            TermsEdges::threeTimesAlready,
            TermsEdges::nothingLeftWithoutNil,
            TermsEdges::nothingLeftUnlisted,
            TermsEdges::unlistedAny,
            TermsEdges::nothingLeftNarrowed,
            TermsEdges::nothingLeftSummed,
            TermsEdges::sumOfAny,
            TermsEdges::sumInAsManyLists,
            TermsEdges::unionOfDefiners,
            TermsEdges::declaredSaysItsWord,
            TermsEdges::undefinedIsAny,
            TermsEdges::beginningWithNothing,
            TermsEdges::endsTooSoon,
            TermsEdges::syntaxTellsNothingElse,
            TermsEdges::syntaxDefinesNothing,
            TermsEdges::unknownEachTime,
            TermsEdges::unknownAtItsDigit,
            TermsEdges::noListOnce,
            TermsEdges::noSumOnce,
            TermsEdges::mismatchWithoutAny,
            TermsEdges::mismatchOfAWordWithAny,
            TermsEdges::orderOfDiagnostics,
            TermsEdges::lookedAtBeforeOrNow,
            TermsEdges::lookedAtAsTheyAreThen,
            TermsEdges::lookedAtOnAndOn,
            TermsEdges::circleEachOnTheOther,
            TermsEdges::hangsOnWhatTheseHangOn,
            TermsEdges::throwingChangesNothing,
            TermsEdges::numbersThatAreNotTold);
        Due.end();
    }

    private static void atMostSixtyCharacters() {
        Due.sentence("THE LINE has at most 60 characters");
        String sixty = "A" + " ".repeat(57) + "=i";
        CheckDaemon x = Due.with(sixty);
        Due.due("length", 60, () -> x.line(0, 0, 0));
        Due.due("read to its end", I, () -> x.symbol(0, 0, 0));
        CheckDaemon y = new CheckDaemon();
        Due.typeIn(y, sixty);
        Due.noState("the 61st", () -> Due.typeIn(y, "!"));
        Due.tells("=i" + "|i".repeat(28) + "|X", 59, UNKNOWN);
        Due.cannotGoOn("=i" + "|i".repeat(28) + "i|", 58);
        Due.cannotGoOn("=i" + "|i".repeat(28) + "|)", 59);
        Due.cannotGoOn("=i" + "|i".repeat(28) + "| ", 60);
    }

    private static void modulesAndPlaces() {
        Due.sentence("MODULES 0 .. 7 have places 0 .. 11");
        CheckDaemon x = new CheckDaemon();
        for (int place = 0; place < 96; place++) {
            Due.put(x, place / 12, place % 12, "=i" + " ".repeat(place % 17));
        }
        for (int place = 0; place < 96; place++) {
            int p = place;
            Due.due("line " + p, 2 + p % 17, () -> x.line(p / 12, p % 12, 0));
        }
    }

    private static void blanksCountForNothing() {
        Due.sentence("blanks count for nothing");
        CheckDaemon x = Due.with("  A  :  s  [  ]  |  n  =  (  7  .  Z  )  !  &  s  [  ]   ");
        Due.due("it can be read", 1, () -> x.line(0, 0, 1));
        Due.due("its length counts them", 57, () -> x.line(0, 0, 0));
        Due.due("its word", S << 5 | N, () -> x.symbol(0, 0, 0));
        Due.allTold(x, 0, 0, 29, UNKNOWN, 0, 0, 50, NOLIST);
        Due.typeOf("  [  i  ]  +  [  s  ]  ", (I | S) << 5);
    }

    private static void thirtyTwoAlone() {
        Due.sentence("blanks, 32 alone");
        for (int c = 1; c < 256; c++) {
            if (c != ' ' && "![&|+".indexOf(c) < 0) {
                Due.cannotGoOn("=i" + (char) c, 2);
            }
        }
        CheckDaemon x = Due.with("\t");
        Due.due("a tab is a line", 1, () -> x.line(0, 0, 0));
        CheckDaemon y = Due.with("\u00a0 ");
        Due.due("160 is a line", 2, () -> y.line(0, 0, 0));
    }

    private static void letterOfASymbol() {
        Due.sentence("a letter A .. Z");
        CheckDaemon x = Due.with("A=i", "Z=s", "=A|Z");
        Due.due("A", I, () -> x.symbol(0, 0, 0));
        Due.due("Z", S, () -> x.symbol(0, 25, 0));
        Due.due("read", I | S, () -> x.line(0, 2, 2));
        Due.cannotGoOn("@=i", 0);
        Due.cannotGoOn("[=i", 0);
        Due.cannotGoOn("a=i", 0);
        Due.cannotGoOn("z=i", 0);
        Due.cannotGoOn("=@", 1);
        Due.cannotGoOn("=\\", 1);
        Due.cannotGoOn("=a", 1);
        Due.cannotGoOn("=0.@", 3);
        Due.cannotGoOn("=0.[", 3);
        Due.cannotGoOn("\u00c1=i", 0);
    }

    private static void kindsOfLines() {
        Due.sentence("it defines it; or it defines and declares it; or = and an EXPRESSION alone");
        CheckDaemon x = Due.with("B=i", "C:s=i", "=i");
        Due.due("B", I, () -> x.symbol(0, 1, 0));
        Due.due("C", S, () -> x.symbol(0, 2, 0));
        Due.due("two are defined", 2, () -> x.count(1));
        Due.due("three lines", 3, () -> x.count(4));
        Due.allTold(x, 0, 1, 3, MISMATCH);
        Due.cannotGoOn("i", 0);
        Due.cannotGoOn(":i=i", 0);
        Due.cannotGoOn("0.A=i", 0);
        Due.cannotGoOn("AB=i", 1);
        Due.cannotGoOn("A+i", 1);
        Due.cannotGoOn("A=B=i", 3);
    }

    private static void fromTheLeftOn() {
        Due.sentence("one or more ORS with + between (from the left on)");
        Due.tells("=i+s+?", 2, NOSUM);
        Due.tells("=?+i+s");
        Due.typeOf("i+s+?", 0);
        Due.typeOf("?+i+s", ANY);
        Due.typeOf("s|i+i", I);
        Due.typeOf("i+i|s", I);
        Due.cannotGoOn("=+i", 1);
        Due.cannotGoOn("=|i", 1);
        Due.cannotGoOn("=i+|i", 3);
    }

    private static void anyEndings() {
        Due.sentence("behind it any of ! , [ ] (both) and &");
        Due.typeOf("i", I);
        Due.typeOf("[[n|i]][]![]!", I);
        Due.typeOf("?&n!", 0);
        Due.typeOf("?[][][]&f", F);
        Due.typeOf("(i|n)!!!!", I);
        Due.tells("=?" + "[]".repeat(29));
        Due.cannotGoOn("=!i", 1);
        Due.cannotGoOn("=&i", 1);
        Due.cannotGoOn("=i]", 2);
        Due.cannotGoOn("=i[i]", 3);
        Due.cannotGoOn("=i[[]]", 3);
    }

    private static void narrowingLetters() {
        Due.sentence("& with a letter i f s n");
        Due.typeOf("?&i", I);
        Due.typeOf("?&f", F);
        Due.typeOf("?&s", S);
        Due.typeOf("?&n", N);
        Due.cannotGoOn("=?&?", 3);
        Due.cannotGoOn("=?&A", 3);
        Due.cannotGoOn("=?&[", 3);
        Due.cannotGoOn("=?&0.A", 3);
        Due.cannotGoOn("=?&", 3);
    }

    private static void digitOfAModule() {
        Due.sentence("a digit 0 .. 7 with . and a SYMBOL");
        Due.tells("=0.A|7.Z", 1, UNKNOWN, 5, UNKNOWN);
        Due.cannotGoOn("=8.A", 1);
        Due.cannotGoOn("=9.A", 1);
        Due.cannotGoOn("=/.A", 1);
        Due.cannotGoOn("=07.A", 2);
        Due.cannotGoOn("=7A", 2);
        Due.cannotGoOn("=7", 2);
        Due.cannotGoOn("=7.", 3);
        Due.cannotGoOn("=7..A", 3);
        Due.cannotGoOn("=7.i", 3);
        Due.cannotGoOn("=.A", 1);
        CheckDaemon x = Due.with("A=i");
        Due.put(x, 7, 0, "A=s");
        Due.put(x, 7, 1, "B=A");
        Due.put(x, 7, 2, "C=0.A");
        Due.due("without a digit its own", S, () -> x.symbol(7, 1, 0));
        Due.due("with a digit that one's", I, () -> x.symbol(7, 2, 0));
    }

    private static void twelveWithinOneAnother() {
        Due.sentence("at most twelve of these within one another");
        Due.tells("=" + "(".repeat(12) + "X" + ")".repeat(12), 13, UNKNOWN);
        Due.tells("=" + "[".repeat(12) + "X" + "]".repeat(12), 13, UNKNOWN);
        Due.tells("=" + "[(".repeat(6) + "X" + ")]".repeat(6), 13, UNKNOWN);
        Due.tells("=" + "(".repeat(12) + "i[]" + ")".repeat(12), 14, NOLIST);
        Due.tells("=" + "(".repeat(11) + "(i)|(i)|[X]" + ")".repeat(11), 21, UNKNOWN);
        Due.tells("=(i)" + "|(i)".repeat(13) + "|X", 57, UNKNOWN);
        Due.tells("=" + "(".repeat(12) + "i" + ")".repeat(12) + "|" + "[".repeat(12) + "X" + "]".repeat(12), 39, UNKNOWN);
    }

    private static void anotherCannotBeThere() {
        Due.sentence("another [ or ( cannot be there");
        Due.cannotGoOn("=" + "(".repeat(13) + "i" + ")".repeat(13), 13);
        Due.cannotGoOn("=" + "[".repeat(13) + "i" + "]".repeat(13), 13);
        Due.cannotGoOn("=" + "(".repeat(12) + "[i]" + ")".repeat(12), 13);
        Due.cannotGoOn("=" + "[".repeat(12) + "(i)" + "]".repeat(12), 13);
        Due.cannotGoOn("=" + "(".repeat(12) + "i|(i)" + ")".repeat(12), 15);
        Due.cannotGoOn("=" + "(".repeat(12) + "i+[i]" + ")".repeat(12), 15);
        Due.cannotGoOn("=" + "(".repeat(59), 13);
        Due.cannotGoOn("=" + "(".repeat(12), 13);
        Due.cannotGoOn("= " + "( ".repeat(13), 26);
    }

    private static void typeWordListsThreeTimes() {
        Due.sentence("TYPE WORD: any of [ ] (both) behind, at most three times each");
        CheckDaemon x = Due.with("A:i[][][]|s[][][]|?[][][]=?");
        Due.due("three times each", (I | S | ANY) << 15, () -> x.symbol(0, 0, 0));
        Due.cannotGoOn("A:i[][][][]=?", 9);
        Due.cannotGoOn("A:i|s[][][][]=?", 11);
        Due.cannotGoOn("A:i[][][] [", 10);
        Due.cannotGoOn("A:i[", 4);
        Due.cannotGoOn("A:i[][=?", 6);
        Due.cannotGoOn("A:i]=?", 3);
        Due.cannotGoOn("A:[i]=?", 2);
        Due.cannotGoOn("A:[]=?", 2);
    }

    private static void typeWordOneOrMore() {
        Due.sentence("TYPE WORD: one or more of i f s n ?");
        CheckDaemon x = Due.with("A:i|f|s|n|?|i|i=i");
        Due.due("all of them", 31, () -> x.symbol(0, 0, 0));
        Due.tells("A:i" + "|i".repeat(26) + "|s=s!");
        Due.cannotGoOn("A:=i", 2);
        Due.cannotGoOn("A:|i=i", 2);
        Due.cannotGoOn("A:i|=i", 4);
        Due.cannotGoOn("A:ii=i", 3);
        Due.cannotGoOn("A:i+i=i", 3);
        Due.cannotGoOn("A:i!=i", 3);
        Due.cannotGoOn("A:(i)=i", 2);
        Due.cannotGoOn("A:B=i", 2);
        Due.cannotGoOn("A:i", 3);
        Due.cannotGoOn("A:", 2);
    }

    private static void formNumbers() {
        Due.sentence("FORM LETTER + 5 * times, a bit for each");
        for (int form = 0; form < 20; form++) {
            int times = form / 5;
            char letter = "ifsn?".charAt(form % 5);
            int want = 1 << form;
            Due.typeOf("[".repeat(times) + letter + "]".repeat(times), want);
            CheckDaemon x = Due.with("A:" + letter + "[]".repeat(times) + "=?");
            Due.due("the word of form " + form, want, () -> x.symbol(0, 0, 0));
        }
    }

    private static void threeTimesAlready() {
        Due.sentence("what is there three times already is ? three times");
        Due.typeOf("[[[[i]]]]", ANY << 15);
        Due.typeOf("[[[[?]]]]", ANY << 15);
        Due.typeOf("[[[[[[[[[[[[n]]]]]]]]]]]]", ANY << 15);
        Due.typeOf("[[[i]]|[[[s]]]]", I << 15 | ANY << 15);
        Due.typeOf("[[[[i]]]|f]", ANY << 15 | F << 5);
        Due.typeOf("[[[[i]]]][][][]", ANY);
        Due.tells("A:?[][][]=[[[[i]]]]");
        Due.tells("A:i[][][]=[[[[i]]]]", 9, MISMATCH);
    }

    private static void nothingLeftWithoutNil() {
        Due.sentence("E!: those of E but n");
        Due.typeOf("n!", 0);
        Due.typeOf("(n|n)!!", 0);
        Due.typeOf("(i|f|s|n|?)!", I | F | S | ANY);
        Due.typeOf("[n]!", N << 5);
        Due.typeOf("?!", ANY);
        Due.tells("=n!");
        Due.tells("=n!+i|s");
        Due.tells("=n![]");
        Due.tells("A:i=n!");
    }

    private static void nothingLeftUnlisted() {
        Due.sentence("E[]: others are left out (NOLIST)");
        Due.typeOf("i[]", 0);
        Due.typeOf("n[]", 0);
        Due.typeOf("[s][][]", 0);
        Due.typeOf("([f]|i|s)[]", F);
        Due.typeOf("[[[s]]][]", S << 10);
        Due.typeOf("[n][]", N);
        Due.tells("=i[]", 2, NOLIST);
        Due.tells("=i[][]", 2, NOLIST);
        Due.tells("=[s][][]", 6, NOLIST);
        Due.tells("=n[]", 2, NOLIST);
        Due.tells("=[s][]");
    }

    private static void unlistedAny() {
        Due.sentence("E[]: of ? itself ?");
        Due.typeOf("?[]", ANY);
        Due.typeOf("?[][][][][]", ANY);
        Due.typeOf("[?][]", ANY);
        Due.typeOf("[[?]][]", ANY << 5);
        Due.typeOf("(?|[?]|i)[]", ANY);
        Due.tells("=?[]");
        Due.tells("=(?|i)[]", 6, NOLIST);
    }

    private static void nothingLeftNarrowed() {
        Due.sentence("E&x: x, if E has x or ?, else nothing");
        Due.typeOf("i&s", 0);
        Due.typeOf("i&i", I);
        Due.typeOf("(i|f|s)&n", 0);
        Due.typeOf("(i|f|s)&f", F);
        Due.typeOf("(i|?)&n", N);
        Due.typeOf("[i]&i", 0);
        Due.typeOf("[?]&i", 0);
        Due.typeOf("n!&n", 0);
        Due.typeOf("i&s&i", 0);
        Due.tells("=i&s");
        Due.tells("=i&s+n&i");
        Due.tells("A:n=i&s");
    }

    private static void nothingLeftSummed() {
        Due.sentence("E+F: else nothing (NOSUM)");
        Due.typeOf("i+s", 0);
        Due.typeOf("n+n", 0);
        Due.typeOf("f+s", 0);
        Due.typeOf("i+n", 0);
        Due.typeOf("[i]+i", 0);
        Due.typeOf("i+i", I);
        Due.typeOf("i+f", F);
        Due.typeOf("f+i", F);
        Due.typeOf("f+f", F);
        Due.typeOf("s+s", S);
        Due.typeOf("(i|f)+(i|f)", I | F);
        Due.typeOf("n!+n!", 0);
        Due.tells("=n+n", 2, NOSUM);
        Due.tells("=i+s+s", 2, NOSUM);
        Due.tells("=n!+i");
        Due.tells("=i+n!");
        Due.tells("=n!+n!");
    }

    private static void sumOfAny() {
        Due.sentence("E+F: ? if one of them is ? itself");
        Due.typeOf("?+?", ANY);
        Due.typeOf("?+n", ANY);
        Due.typeOf("[[i]]+?", ANY);
        Due.typeOf("?+n!", 0);
        Due.typeOf("(?|i)+i", ANY | I);
        Due.typeOf("[?]+[?]", ANY << 5);
        Due.typeOf("[?]+i", 0);
        Due.tells("=?+n");
        Due.tells("=[i]+?+s");
        Due.tells("=(?|i)+s", 6, NOSUM);
        Due.tells("=[?]+i", 4, NOSUM);
    }

    private static void sumInAsManyLists() {
        Due.sentence("E+F: both, if they are in as many lists, at least one");
        Due.typeOf("[i]+[s]", (I | S) << 5);
        Due.typeOf("[n]+[n]", N << 5);
        Due.typeOf("[[i]]+[[f]]", (I | F) << 10);
        Due.typeOf("[[[i]]]+[[[s]]]", (I | S) << 15);
        Due.typeOf("[[i]]+[i]", 0);
        Due.typeOf("[[[i]]]+[[i]]", 0);
        Due.typeOf("[i]|[[s]]+[f]|[[[n]]]", (I | F) << 5);
        Due.tells("=[i]+[s]");
        Due.tells("=[[[i]]]+[[[s]]]");
        Due.tells("=[[i]]+[i]", 6, NOSUM);
    }

    private static void unionOfDefiners() {
        Due.sentence("A SYMBOL is the union of what all lines that define it say");
        CheckDaemon x = new CheckDaemon();
        for (int line = 0; line < 12; line++) {
            Due.put(x, 3, line, "M=" + "[".repeat(line / 4) + "ifsn".charAt(line % 4) + "]".repeat(line / 4));
        }
        Due.due("twelve lines", 15 | 15 << 5 | 15 << 10, () -> x.symbol(3, 12, 0));
        Due.due("how many", 12, () -> x.symbol(3, 12, 1));
        Due.due("one symbol", 1, () -> x.count(1));
        x.put(3, 5);
        Due.due("one less", 15 | 13 << 5 | 15 << 10, () -> x.symbol(3, 12, 0));
    }

    private static void declaredSaysItsWord() {
        Due.sentence("of a line that declares it its TYPE WORD, of others their EXPRESSION");
        CheckDaemon x = Due.with("A:s=i", "A=f", "B:n=A", "=A|B");
        Due.due("A", S | F, () -> x.symbol(0, 0, 0));
        Due.due("B", N, () -> x.symbol(0, 1, 0));
        Due.due("the expression of B's line", S | F, () -> x.line(0, 2, 2));
        Due.due("what reads both", S | F | N, () -> x.line(0, 3, 2));
    }

    private static void undefinedIsAny() {
        Due.sentence("A SYMBOL that no line defines is ? (UNKNOWN)");
        CheckDaemon x = Due.with("B=A", "C=7.Z|i");
        Due.due("B", ANY, () -> x.symbol(0, 1, 0));
        Due.due("C", ANY | I, () -> x.symbol(0, 2, 0));
        Due.allTold(x, 0, 0, 2, UNKNOWN, 0, 1, 2, UNKNOWN);
        Due.put(x, 0, 2, "A=n!");
        Due.due("defined, with nothing", 0, () -> x.symbol(0, 0, 0));
        Due.due("B of it", 0, () -> x.symbol(0, 1, 0));
        Due.allTold(x, 0, 1, 2, UNKNOWN);
    }

    private static void beginningWithNothing() {
        Due.sentence("beginning with nothing they grow until nothing changes");
        CheckDaemon x = Due.with("A=A", "B=C", "C=B!|B[]", "D=D+i|s");
        Due.due("A on itself", 0, () -> x.symbol(0, 0, 0));
        Due.due("B on C", 0, () -> x.symbol(0, 1, 0));
        Due.due("D+i with nothing of D", 0, () -> x.symbol(0, 3, 0));
        Due.due("nothing told", 0, () -> x.count(0));
        Due.put(x, 0, 4, "B=[[n]]|n");
        Due.due("grown", N | N << 5 | N << 10, () -> x.symbol(0, 1, 0));
        Due.due("n! of C and n of B[]", N | N << 5 | N << 10, () -> x.symbol(0, 2, 0));
        Due.allTold(x, 0, 2, 6, NOLIST);
        x.put(0, 4);
        Due.due("nothing again", 0, () -> x.symbol(0, 1, 0));
        Due.due("nothing of C", 0, () -> x.symbol(0, 2, 0));
        Due.due("nothing told again", 0, () -> x.count(0));
    }

    private static void endsTooSoon() {
        Due.sentence("SYNTAX: its length, if it ends too soon");
        String[] texts = {"A", "A:", "A:i", "A:i[", "A:i[]", "A:i|", "=", "A=", "=[", "=(", "=[i", "=(i", "=i[", "=i&", "=i|", "=i+", "=0", "=0."};
        for (String text : texts) {
            Due.cannotGoOn(text, text.length());
            Due.cannotGoOn(text + "   ", text.length() + 3);
        }
        Due.cannotGoOn(" ".repeat(58) + "A=", 60);
        Due.cannotGoOn(" ".repeat(59) + "A", 60);
        Due.cannotGoOn("A" + " ".repeat(59), 60);
    }

    private static void syntaxTellsNothingElse() {
        Due.sentence("such a line tells nothing else");
        Due.tells("A:i=s|X|i[]+n+", 14, SYNTAX);
        Due.tells("A:i=s|X|i[]+n))", 13, SYNTAX);
        Due.tells("=X X", 3, SYNTAX);
    }

    private static void syntaxDefinesNothing() {
        Due.sentence("such a line defines nothing");
        CheckDaemon x = Due.with("A=i|B+", "C:i=A)", "=A");
        Due.due("A", -1, () -> x.symbol(0, 0, 0));
        Due.due("C", -1, () -> x.symbol(0, 2, 0));
        Due.due("defines A", 0, () -> x.symbol(0, 0, 1));
        Due.due("symbols", 0, () -> x.count(1));
        Due.due("one reads A", 1, () -> x.symbol(0, 0, 2));
        Due.due("none reads B", 0, () -> x.symbol(0, 1, 2));
        Due.allTold(x, 0, 0, 6, SYNTAX, 0, 1, 5, SYNTAX, 0, 2, 1, UNKNOWN);
    }

    private static void unknownEachTime() {
        Due.sentence("UNKNOWN at the SYMBOL, each time");
        Due.tells("=X|X+X|(X)|[X]|X&i", 1, UNKNOWN, 3, UNKNOWN, 5, UNKNOWN, 8, UNKNOWN, 12, UNKNOWN, 15, UNKNOWN);
        Due.tells("A=A|B", 4, UNKNOWN);
    }

    private static void unknownAtItsDigit() {
        Due.sentence("UNKNOWN at its digit, if it has one");
        Due.tells("=6.X|X| 6 . X|5.X", 1, UNKNOWN, 5, UNKNOWN, 8, UNKNOWN, 14, UNKNOWN);
        Due.tells("X=6.X|5.X", 6, UNKNOWN);
    }

    private static void noListOnce() {
        Due.sentence("NOLIST at the [, once, if there is any such FORM");
        Due.tells("=(i|f|s|n)[]", 10, NOLIST);
        Due.tells("=(i|f|s|n|?|[i]) [ ]", 17, NOLIST);
        Due.tells("=i[]|s[]|[n][]", 2, NOLIST, 6, NOLIST);
        Due.tells("=[i|s][]");
    }

    private static void noSumOnce() {
        Due.sentence("NOSUM at the +, once, if there is any such pair");
        Due.tells("=i|f|s|n + i|f|s|n|[i]", 9, NOSUM);
        Due.tells("=i|n+i", 4, NOSUM);
        Due.tells("=i+i|n", 2, NOSUM);
        Due.tells("=i+s|i+s", 2, NOSUM, 6, NOSUM);
        Due.tells("=i|f+i|f");
    }

    private static void mismatchWithoutAny() {
        Due.sentence("MISMATCH: without ? itself, which may always be");
        Due.tells("A:i=?");
        Due.tells("A:i=?|i");
        Due.tells("A:i=?|s", 3, MISMATCH);
        Due.tells("A:i=[?]", 3, MISMATCH);
        Due.tells("A:i=[[[?]]]", 3, MISMATCH);
        Due.tells("A:i=[i]", 3, MISMATCH);
        Due.tells("A:i[]=i", 5, MISMATCH);
        Due.tells("A:i|s=i");
        Due.tells("A : i | s = s | n", 10, MISMATCH);
        Due.tells("=s");
    }

    private static void mismatchOfAWordWithAny() {
        Due.sentence("MISMATCH: but of a TYPE WORD that has ? itself");
        Due.tells("A:?=i|[n]|[[[s]]]");
        Due.tells("A:i|?=s");
        Due.tells("A:?[]=s", 5, MISMATCH);
        Due.tells("A:?[]=[s]", 5, MISMATCH);
        Due.tells("A:?[]=[?]");
        Due.tells("A:?[]=?");
    }

    private static void orderOfDiagnostics() {
        Due.sentence("They are ordered by MODULES, lines, places, codes");
        CheckDaemon x = new CheckDaemon();
        Due.put(x, 7, 0, "=)");
        Due.put(x, 0, 11, "A:i=s|n[]+X");
        Due.put(x, 0, 2, "=X");
        Due.put(x, 1, 0, "=n+n");
        Due.allTold(x, 0, 2, 1, UNKNOWN, 0, 11, 7, NOLIST, 0, 11, 10, UNKNOWN, 1, 0, 2, NOSUM, 7, 0, 1, SYNTAX);
        Due.put(x, 0, 0, "X=s");
        Due.allTold(x, 0, 11, 3, MISMATCH, 0, 11, 7, NOLIST, 1, 0, 2, NOSUM, 7, 0, 1, SYNTAX);
    }

    private static void lookedAtBeforeOrNow() {
        Due.sentence("those that READ a SYMBOL that the line defined before or does now");
        CheckDaemon x = Due.with("A=i", "=A", "=A", "=B", "=0.A", "=1.A");
        Due.due("A now and before", 4, () -> Due.put(x, 0, 0, "A=i"));
        Due.due("A before, B now", 5, () -> Due.put(x, 0, 0, "B=i"));
        Due.due("B before, none now", 2, () -> Due.put(x, 0, 0, "=i"));
        Due.due("none before, A now", 4, () -> Due.put(x, 0, 0, "A=i"));
        Due.due("A before, unreadable now", 4, () -> Due.put(x, 0, 0, "B"));
        Due.due("unreadable before, B now", 2, () -> Due.put(x, 0, 0, "B:s=s"));
        Due.due("B before, no line now", 2, () -> x.put(0, 0));
    }

    private static void lookedAtAsTheyAreThen() {
        Due.sentence("of lines as they are then");
        CheckDaemon x = Due.with("A=A", "B=A");
        Due.due("it read itself, but is none now", 2, () -> x.put(0, 0));
        Due.due("it reads itself now: once", 2, () -> Due.put(x, 0, 0, "A=A"));
        Due.due("it reads B now", 2, () -> Due.put(x, 0, 0, "A=B"));
        Due.due("A reads B, but this reads A no more", 2, () -> Due.put(x, 0, 1, "C=i"));
        Due.due("none reads A", 1, () -> x.put(0, 0));
    }

    private static void lookedAtOnAndOn() {
        Due.sentence("those that READ a SYMBOL that a line that is LOOKED AT defines");
        CheckDaemon x = Due.with("A=i", "B=A", "C:i=B", "=C", "D=E", "B=s");
        Due.due("through a declared one", 4, () -> Due.put(x, 0, 0, "A=i"));
        Due.due("from the middle", 3, () -> Due.put(x, 0, 1, "B=A"));
        Due.due("from another that defines it", 3, () -> Due.put(x, 0, 5, "B=f"));
        Due.due("from the end", 1, () -> Due.put(x, 0, 3, "=C"));
        Due.due("another one", 1, () -> Due.put(x, 0, 4, "D=E"));
        Due.due("round a circle", 4, () -> Due.put(x, 0, 0, "A=C"));
        Due.due("round it from within", 4, () -> Due.put(x, 0, 2, "C=B"));
    }

    private static void circleEachOnTheOther() {
        Due.sentence("SYMBOLS stand in one CIRCLE if each of them hangs on the other");
        CheckDaemon x = Due.with("C=D", "D=C", "B=C", "E=D", "D=A", "A=i");
        Due.due("C", 2, () -> x.symbol(0, 2, 3));
        Due.due("D", 2, () -> x.symbol(0, 3, 3));
        Due.due("B hangs on them, but not they on it", 1, () -> x.symbol(0, 1, 3));
        Due.due("E", 4, () -> x.symbol(0, 4, 3));
        Due.due("they hang on A, but not it on them", 0, () -> x.symbol(0, 0, 3));
        Due.due("circles", 1, () -> x.count(2));
        Due.due("on themselves", 2, () -> x.count(3));
    }

    private static void hangsOnWhatTheseHangOn() {
        Due.sentence("a SYMBOL hangs on those that lines that define it READ, and on what these hang on");
        CheckDaemon x = Due.with("A=i", "A=B", "B:s=C", "C=D&i", "D=n|A!");
        for (int symbol = 0; symbol < 4; symbol++) {
            int s = symbol;
            Due.due("circle of " + s, 0, () -> x.symbol(0, s, 3));
        }
        Due.due("on themselves", 4, () -> x.count(3));
        Due.put(x, 0, 4, "=n|A!");
        Due.due("a line that defines none: no circle", 0, () -> x.count(2));
        Due.due("none on itself", 0, () -> x.count(3));
        Due.put(x, 0, 4, "D=n|A!)");
        Due.due("a line that cannot be read: none", 0, () -> x.count(3));
    }

    private static CheckDaemon beforeThrowing() {
        CheckDaemon x = Due.with("A=B|X", "B=[A]|s", "C:i=A+", "=C[]+n");
        Due.put(x, 7, 11, "Z:n=0.A[]");
        Due.typeIn(x, "Q=7.Z" + " ".repeat(53));
        return x;
    }

    /** What x answers of itself, and of what it does next; well under 512 calls. */
    private static int[] answers(CheckDaemon x) {
        int[] found = new int[200];
        int size = 0;
        for (int round = 0; round < 3; round++) {
            for (int what = 0; what < 6; what++) {
                found[size++] = x.count(what);
            }
            for (int k = 0; k < 24; k++) {
                found[size++] = x.diagnostic(k / 4, k % 4);
                found[size++] = k < 16 ? x.symbol(0, k / 4, k % 4) : x.line(0, k % 4, k / 4 - 4);
            }
            found[size++] = x.symbol(7, 25, 0);
            found[size++] = x.type(0, 0, 0, 0, 0);
            found[size++] = round == 0 ? x.put(0, 11) : x.undo();
        }
        return found;
    }

    private static void throwingChangesNothing() {
        Due.sentence("A call that throws changes nothing");
        int[] want = answers(beforeThrowing());
        CheckDaemon[] thrown = new CheckDaemon[8];
        for (int k = 0; k < thrown.length; k++) {
            thrown[k] = beforeThrowing();
        }
        Due.noState("type", () -> thrown[0].type('!', '!', '!', 0, 0));
        Due.noArgument("put, line", () -> thrown[1].put(0, 12));
        Due.noArgument("put, module", () -> thrown[2].put(-1, 0));
        Due.noArgument("drop", () -> thrown[3].drop(8));
        Due.noArgument("symbol", () -> thrown[4].symbol(0, 26, 3));
        Due.noArgument("line", () -> thrown[5].line(0, 0, 5));
        Due.noArgument("diagnostic", () -> thrown[6].diagnostic(0, 4));
        Due.noArgument("count", () -> thrown[7].count(6));
        for (int k = 0; k < thrown.length; k++) {
            int[] got = answers(thrown[k]);
            for (int at = 0; at < want.length; at++) {
                Due.due("throwing call " + k + ", answer " + at + " behind it", want[at], got[at]);
            }
        }
        CheckDaemon x = new CheckDaemon();
        Due.typeIn(x, "A=i");
        Due.noState("undo", x::undo);
        Due.due("THE LINE behind an undo that throws", 3, x::erase);
    }

    private static void numbersThatAreNotTold() {
        Due.sentence("IllegalArgument is thrown where a number is none of those told here");
        CheckDaemon x = Due.with("A=i");
        int[] below = {-1, Integer.MIN_VALUE};
        int[] above = {0, 1, 256, Integer.MAX_VALUE - 26};
        for (int n : below) {
            wrongNumber(x, n, n, n, n, n);
        }
        for (int n : above) {
            wrongNumber(x, 8 + n, 12 + n, 26 + n, 4 + n, 6 + n);
        }
        Due.noArgument("line, what 5", () -> x.line(0, 0, 5));
        Due.due("line, what 4", 0, () -> x.line(0, 0, 4));
        Due.due("A", I, () -> x.symbol(0, 0, 0));
    }

    private static void wrongNumber(CheckDaemon x, int module, int line, int symbol, int what, int countWhat) {
        Due.noArgument("put, module " + module, () -> x.put(module, 0));
        Due.noArgument("put, line " + line, () -> x.put(0, line));
        Due.noArgument("drop, module " + module, () -> x.drop(module));
        Due.noArgument("symbol, module " + module, () -> x.symbol(module, 0, 0));
        Due.noArgument("symbol, symbol " + symbol, () -> x.symbol(0, symbol, 0));
        Due.noArgument("symbol, what " + what, () -> x.symbol(0, 0, what));
        Due.noArgument("line, module " + module, () -> x.line(module, 0, 0));
        Due.noArgument("line, line " + line, () -> x.line(0, line, 0));
        Due.noArgument("line, what " + what, () -> x.line(0, 0, what < 0 ? what : what + 1));
        Due.noArgument("diagnostic, what " + what, () -> x.diagnostic(0, what));
        Due.noArgument("count, what " + countWhat, () -> x.count(countWhat));
    }
}
