/** Each promise by itself: ordinary inputs, the edges that the document names, wrong inputs. */
public final class PromiseTests {
    private static final int I = 1;
    private static final int F = 2;
    private static final int S = 4;
    private static final int N = 8;
    private static final int ANY = 16;

    public static void main(String[] args) {
        Due.each(
            PromiseTests::newObject,
            PromiseTests::type,
            PromiseTests::erase,
            PromiseTests::put,
            PromiseTests::putLooks,
            PromiseTests::drop,
            PromiseTests::undo,
            PromiseTests::undoAtMostSixteen,
            PromiseTests::symbol,
            PromiseTests::symbolCircles,
            PromiseTests::line,
            PromiseTests::diagnostic,
            PromiseTests::count,
            PromiseTests::reading,
            PromiseTests::types,
            PromiseTests::declared,
            PromiseTests::growing);
        Due.end();
    }

    private static void newObject() {
        CheckDaemon x = new CheckDaemon();
        Due.due("1 new: erase", 0, x::erase);
        for (int what = 0; what < 6; what++) {
            int w = what;
            Due.due("1 new: count " + w, 0, () -> x.count(w));
        }
        for (int place = 0; place < 96; place++) {
            int p = place;
            Due.due("1 new: line " + p, -1, () -> x.line(p / 12, p % 12, 0));
        }
        Due.due("1 new: symbol", -1, () -> x.symbol(7, 25, 0));
        Due.due("1 new: diagnostic", -1, () -> x.diagnostic(0, 0));
        Due.noState("1 new: undo", x::undo);
    }

    private static void type() {
        CheckDaemon x = new CheckDaemon();
        Due.due("2 nothing", 0, () -> x.type(0, 0, 0, 0, 0));
        Due.due("2 bytes 0 between", 3, () -> x.type(0x41000000, 0x00003d00, 0, 0, 0x00000069));
        Due.due("2 read in their order", 1, () -> x.put(0, 0));
        Due.due("2 A=i stands", I, () -> x.symbol(0, 0, 0));
        Due.due("2 high bytes", 4, () -> x.type(0xffffffff, 0, 0, 0, 0));
        Due.due("2 more", 24, () -> Due.typeIn(x, "AAAAAAAAAAAAAAAAAAAA"));
        Due.due("2 more", 44, () -> Due.typeIn(x, "AAAAAAAAAAAAAAAAAAAA"));
        Due.noState("2 64", () -> Due.typeIn(x, "AAAAAAAAAAAAAAAAAAAA"));
        Due.noState("2 61", () -> Due.typeIn(x, "AAAAAAAAAAAAAAAAA"));
        Due.due("2 60", 60, () -> Due.typeIn(x, "AAAAAAAAAAAAAAAA"));
        Due.due("2 nothing more", 60, () -> x.type(0, 0, 0, 0, 0));
        Due.noState("2 one more, the last byte", () -> x.type(0, 0, 0, 0, 1));
        Due.noState("2 one more, a blank", () -> x.type(0x20, 0, 0, 0, 0));
        Due.due("2 unchanged", 60, x::erase);
    }

    private static void erase() {
        CheckDaemon x = new CheckDaemon();
        Due.typeIn(x, "A = i");
        Due.due("3 five", 5, x::erase);
        Due.due("3 empty", 0, x::erase);
        Due.typeIn(x, "s");
        Due.due("3 begins anew", 2, () -> Due.typeIn(x, "="));
        x.put(1, 1);
        Due.due("3 erased is not put", 0, () -> x.count(1));
        Due.due("3 put empties", 0, x::erase);
    }

    private static void put() {
        CheckDaemon x = new CheckDaemon();
        Due.typeIn(x, "A=i");
        Due.noArgument("4 module -1", () -> x.put(-1, 0));
        Due.noArgument("4 module 8", () -> x.put(8, 0));
        Due.noArgument("4 line -1", () -> x.put(0, -1));
        Due.noArgument("4 line 12", () -> x.put(0, 12));
        Due.noArgument("4 least", () -> x.put(Integer.MIN_VALUE, Integer.MIN_VALUE));
        Due.noArgument("4 greatest", () -> x.put(Integer.MAX_VALUE, Integer.MAX_VALUE));
        Due.due("4 no undo of these", 0, () -> x.count(5));
        Due.due("4 line kept", 3, () -> x.type(0, 0, 0, 0, 0));
        Due.due("4 first", 1, () -> x.put(0, 0));
        Due.due("4 then empty", 0, x::erase);
        Due.due("4 last place", 1, () -> Due.put(x, 7, 11, "Z=0.A"));
        Due.due("4 it stands", 5, () -> x.line(7, 11, 0));
        Due.due("4 none by blanks", 1, () -> Due.put(x, 7, 11, "   "));
        Due.due("4 none", -1, () -> x.line(7, 11, 0));
        Due.due("4 none for none", 1, () -> x.put(3, 3));
        Due.due("4 a tab is no blank", 1, () -> Due.put(x, 7, 11, " \t"));
        Due.due("4 it stands", 2, () -> x.line(7, 11, 0));
    }

    private static void putLooks() {
        CheckDaemon x = new CheckDaemon();
        Due.put(x, 0, 0, "A=i");
        Due.due("4 reads A", 1, () -> Due.put(x, 0, 1, "B=A"));
        Due.due("4 reads B", 1, () -> Due.put(x, 1, 0, "C=0.B"));
        Due.due("4 reads C, defines none", 1, () -> Due.put(x, 1, 1, "=C"));
        Due.due("4 reads none", 1, () -> Due.put(x, 1, 2, "=i"));
        Due.due("4 cannot be read", 1, () -> Due.put(x, 1, 3, "=C+"));
        Due.due("4 A and on", 4, () -> Due.put(x, 0, 0, "A=i"));
        Due.due("4 from A to X: what read A too", 4, () -> Due.put(x, 0, 0, "X=i"));
        Due.due("4 back to A", 4, () -> Due.put(x, 0, 0, "A=A"));
        Due.due("4 cannot be read any more", 4, () -> Due.put(x, 0, 0, "A=A A"));
        Due.due("4 none where none was read", 1, () -> x.put(0, 0));
        Due.due("4 declared ones are looked through", 3, () -> Due.put(x, 0, 1, "B:s=A"));
        Due.due("4 a second definer", 3, () -> Due.put(x, 0, 5, "B=s"));
        Due.due("4 the circle once", 4, () -> Due.put(x, 0, 6, "A=1.C"));
    }

    private static void drop() {
        CheckDaemon x = new CheckDaemon();
        Due.noArgument("5 module -1", () -> x.drop(-1));
        Due.noArgument("5 module 8", () -> x.drop(8));
        Due.put(x, 0, 0, "A=i");
        Due.put(x, 0, 11, "A=");
        Due.put(x, 1, 0, "B=0.A");
        Due.noArgument("5 module 8", () -> x.drop(8));
        Due.due("5 undos stay when it throws", 3, () -> x.count(5));
        Due.typeIn(x, "C=s");
        Due.due("5 two lines", 2, () -> x.drop(0));
        Due.due("5 gone", -1, () -> x.line(0, 0, 0));
        Due.due("5 gone", -1, () -> x.line(0, 11, 0));
        Due.due("5 the other module stays", 5, () -> x.line(1, 0, 0));
        Due.due("5 A is unknown now", 2, () -> x.diagnostic(0, 3));
        Due.due("5 and ?", ANY, () -> x.symbol(1, 1, 0));
        Due.due("5 no undos", 0, () -> x.count(5));
        Due.noState("5 no undo", x::undo);
        Due.due("5 the line typed stays", 3, x::erase);
        Due.due("5 none", 0, () -> x.drop(0));
        Due.put(x, 2, 2, "A=i");
        Due.due("5 none, of an empty module", 0, () -> x.drop(5));
        Due.noState("5 not beyond that either", x::undo);
    }

    private static void undo() {
        CheckDaemon x = new CheckDaemon();
        Due.noState("6 none", x::undo);
        Due.put(x, 0, 0, "A=i");
        Due.put(x, 0, 1, "B=A");
        Due.put(x, 0, 0, "A=s");
        Due.put(x, 0, 0, "A=s");
        Due.put(x, 4, 4, "");
        Due.typeIn(x, "Q=f");
        Due.due("6 of a put that altered nothing", 1, x::undo);
        Due.due("6 of one that altered nothing", 2, x::undo);
        Due.due("6 A still s", S, () -> x.symbol(0, 1, 0));
        Due.due("6 third", 2, x::undo);
        Due.due("6 A is i", I, () -> x.symbol(0, 1, 0));
        Due.due("6 no put", 2, () -> x.count(5));
        Due.due("6 a put again", 2, () -> x.put(0, 0));
        Due.due("6 A is gone", 2, () -> x.diagnostic(0, 3));
        Due.due("6 and back", 2, x::undo);
        Due.due("6 the one before", 1, x::undo);
        Due.due("6 B is gone", -1, () -> x.symbol(0, 1, 0));
        Due.due("6 the first", 1, x::undo);
        Due.due("6 no lines", 0, () -> x.count(4));
        Due.noState("6 no more", x::undo);
        Due.put(x, 0, 0, "A=");
        Due.put(x, 0, 0, "A=B");
        x.undo();
        Due.due("6 cannot be read again", 0, () -> x.line(0, 0, 1));
        Due.due("6 and tells it", 1, () -> x.diagnostic(0, 3));
    }

    private static void undoAtMostSixteen() {
        CheckDaemon x = new CheckDaemon();
        for (int k = 0; k < 20; k++) {
            Due.put(x, 0, k % 12, k % 2 == 0 ? "A=i" : "A=s|i");
            int undos = Math.min(16, k + 1);
            Due.due("6 undos after put " + k, undos, () -> x.count(5));
        }
        for (int k = 15; k >= 0; k--) {
            int left = k;
            Due.due("6 undo", 1, x::undo);
            Due.due("6 undos left", left, () -> x.count(5));
        }
        Due.noState("6 no seventeenth", x::undo);
        Due.due("6 the first four stand", 4, () -> x.count(4));
        Due.typeIn(x, "Z=f");
        Due.noState("6 changes nothing", x::undo);
        Due.due("6 the line typed stays", 3, x::erase);
    }

    private static void symbol() {
        CheckDaemon x = new CheckDaemon();
        Due.put(x, 2, 0, "A=i");
        Due.put(x, 2, 1, "A:s=Z+2.Z|Z");
        Due.put(x, 2, 2, "A=");
        Due.put(x, 3, 0, "A=2.A|A");
        Due.due("7 type of all that define it", I | S, () -> x.symbol(2, 0, 0));
        Due.due("7 two define it", 2, () -> x.symbol(2, 0, 1));
        Due.due("7 one reads it", 1, () -> x.symbol(2, 0, 2));
        Due.due("7 its own circle", 52, () -> x.symbol(2, 0, 3));
        Due.due("7 undefined: type", -1, () -> x.symbol(2, 25, 0));
        Due.due("7 undefined: none define it", 0, () -> x.symbol(2, 25, 1));
        Due.due("7 undefined: one line reads it", 1, () -> x.symbol(2, 25, 2));
        Due.due("7 undefined: circle", -1, () -> x.symbol(2, 25, 3));
        Due.due("7 other module", I | S, () -> x.symbol(3, 0, 0));
        Due.noArgument("7 module -1", () -> x.symbol(-1, 0, 0));
        Due.noArgument("7 module 8", () -> x.symbol(8, 0, 0));
        Due.noArgument("7 symbol -1", () -> x.symbol(0, -1, 0));
        Due.noArgument("7 symbol 26", () -> x.symbol(0, 26, 0));
        Due.noArgument("7 what -1", () -> x.symbol(0, 0, -1));
        Due.noArgument("7 what 4", () -> x.symbol(0, 0, 4));
    }

    private static void symbolCircles() {
        CheckDaemon x = new CheckDaemon();
        Due.put(x, 7, 0, "Z=0.B");
        Due.put(x, 0, 0, "B:i=7.Z");
        Due.put(x, 0, 1, "A=B");
        Due.put(x, 0, 2, "C=C|A");
        Due.due("7 a declared one is in it", 1, () -> x.symbol(0, 1, 3));
        Due.due("7 the least", 1, () -> x.symbol(7, 25, 3));
        Due.due("7 A hangs on it alone", 0, () -> x.symbol(0, 0, 3));
        Due.due("7 C too", 2, () -> x.symbol(0, 2, 3));
        Due.due("10 one circle", 1, () -> x.count(2));
        Due.due("10 three hang on themselves", 3, () -> x.count(3));
        Due.put(x, 0, 3, "B=C");
        Due.due("7 now A is in it", 0, () -> x.symbol(7, 25, 3));
        Due.due("7 and C", 0, () -> x.symbol(0, 2, 3));
        Due.due("10 still one", 1, () -> x.count(2));
        Due.due("10 four", 4, () -> x.count(3));
        Due.put(x, 4, 0, "A=B");
        Due.put(x, 4, 1, "B=A");
        Due.due("10 two circles", 2, () -> x.count(2));
        Due.put(x, 4, 1, "B=A A");
        Due.due("10 what cannot be read hangs on nothing", 1, () -> x.count(2));
    }

    private static void line() {
        CheckDaemon x = new CheckDaemon();
        Due.put(x, 5, 11, "  A = A | 5.A | B + i ");
        int[] want = {22, 1, ANY, 1, 2};
        for (int what = 0; what < 5; what++) {
            int w = what;
            Due.due("8 none, what " + w, -1, () -> x.line(5, 10, w));
        }
        for (int what = 0; what < 5; what++) {
            int w = what;
            Due.due("8 what " + w, want[w], () -> x.line(5, 11, w));
        }
        Due.put(x, 5, 10, "A=B|");
        int[] unread = {4, 0, -1, 1, -1};
        for (int what = 0; what < 5; what++) {
            int w = what;
            Due.due("8 unread, what " + w, unread[w], () -> x.line(5, 10, w));
        }
        Due.put(x, 5, 9, "C:s=i");
        Due.due("8 the type of the expression, not the word", I, () -> x.line(5, 9, 2));
        Due.noArgument("8 module -1", () -> x.line(-1, 0, 0));
        Due.noArgument("8 module 8", () -> x.line(8, 0, 0));
        Due.noArgument("8 line -1", () -> x.line(0, -1, 0));
        Due.noArgument("8 line 12", () -> x.line(0, 12, 0));
        Due.noArgument("8 what -1", () -> x.line(0, 0, -1));
        Due.noArgument("8 what 5", () -> x.line(0, 0, 5));
    }

    private static void diagnostic() {
        Due.tells("=X + 0.X|X", 1, 2, 5, 2, 9, 2);
        Due.tells("= 0 . X", 2, 2);
        Due.tells("A:i=(i+s)|[n]+[i]", 3, 5, 6, 4);
        Due.tells("A:i=[n]+(i+s)", 10, 4);
        Due.tells("A:i=(i+s)+s[]+i|i[]+n", 6, 4, 11, 3, 17, 3);
        Due.tells("A:i=s+n+(i|[i])[]", 5, 4, 15, 3);
        Due.tells("=(s|n|i)+s", 8, 4);
        Due.tells("=?[]+(?|[?])[]");
        Due.tells("=n+n", 2, 4);
        Due.tells("=(i|n)+i", 6, 4);
        Due.tells("=s+s+s");
        Due.tells("=i|f+f|i");
        Due.tells("=[i|n]+[s]");
        Due.tells("=[i]+([i]|[[i]])", 4, 4);
        Due.tells("=[i]+(?|s)", 4, 4);
        Due.tells("=n+?+?+n");
        Due.tells("=(s|n|i|[i])[]+?", 12, 3);
        Due.tells("A:i= n[] + s", 6, 3);
    }

    private static void count() {
        CheckDaemon x = new CheckDaemon();
        Due.put(x, 1, 5, "A=i[]");
        Due.put(x, 1, 4, "A=X");
        Due.put(x, 0, 11, "B=)");
        Due.put(x, 0, 10, "=i");
        Due.due("10 diagnostics", 3, () -> x.count(0));
        Due.due("10 symbols", 1, () -> x.count(1));
        Due.due("10 circles", 0, () -> x.count(2));
        Due.due("10 on themselves", 0, () -> x.count(3));
        Due.due("10 lines", 4, () -> x.count(4));
        Due.due("10 undos", 4, () -> x.count(5));
        int[] codes = {1, 2, 3};
        for (int each = 0; each < 3; each++) {
            int k = each;
            Due.due("9 in order", codes[k], () -> x.diagnostic(k, 3));
        }
        Due.due("9 k -1", -1, () -> x.diagnostic(-1, 0));
        Due.due("9 least k", -1, () -> x.diagnostic(Integer.MIN_VALUE, 3));
        Due.due("9 greatest k", -1, () -> x.diagnostic(Integer.MAX_VALUE, 3));
        Due.noArgument("9 what -1", () -> x.diagnostic(0, -1));
        Due.noArgument("9 what 4", () -> x.diagnostic(0, 4));
        Due.noArgument("9 what 4 of none", () -> x.diagnostic(-1, 4));
        Due.noArgument("10 what -1", () -> x.count(-1));
        Due.noArgument("10 what 6", () -> x.count(6));
        Due.put(x, 0, 0, "E=E");
        Due.due("10 one alone is no circle of two", 0, () -> x.count(2));
        Due.due("10 but hangs on itself", 1, () -> x.count(3));
    }

    private static void reading() {
        Due.cannotGoOn("A", 1);
        Due.cannotGoOn("A  ", 3);
        Due.cannotGoOn("a=i", 0);
        Due.cannotGoOn("  i", 2);
        Due.cannotGoOn(":i=i", 0);
        Due.cannotGoOn("A:", 2);
        Due.cannotGoOn("A:=i", 2);
        Due.cannotGoOn("A:A=i", 2);
        Due.cannotGoOn("A:i[=i", 4);
        Due.cannotGoOn("A:i[][][][]=i", 9);
        Due.cannotGoOn("A:i|=i", 4);
        Due.cannotGoOn("A:i!=i", 3);
        Due.cannotGoOn("AB=i", 1);
        Due.cannotGoOn("A=", 2);
        Due.cannotGoOn("A==i", 2);
        Due.cannotGoOn("=i i", 3);
        Due.cannotGoOn("=i+", 3);
        Due.cannotGoOn("=i||i", 3);
        Due.cannotGoOn("=[]", 2);
        Due.cannotGoOn("=()", 2);
        Due.cannotGoOn("=(i]", 3);
        Due.cannotGoOn("=[i)", 3);
        Due.cannotGoOn("=[i", 3);
        Due.cannotGoOn("=i)", 2);
        Due.cannotGoOn("=i[i]", 3);
        Due.cannotGoOn("=i&", 3);
        Due.cannotGoOn("=i&?", 3);
        Due.cannotGoOn("=i&A", 3);
        Due.cannotGoOn("=8.A", 1);
        Due.cannotGoOn("=0A", 2);
        Due.cannotGoOn("=0.i", 3);
        Due.cannotGoOn("=0.  ", 5);
        Due.cannotGoOn("=i\t", 2);
        Due.cannotGoOn("=[([([([([([(i", 14);
        Due.cannotGoOn("=[([([([([([([i", 13);
        Due.cannotGoOn("=(((((((((((([i", 13);
        Due.tells("=[([([([([([(i[])])])])])])]", 14, 3);
        Due.tells("A:i[][][]|?=i");
        Due.tells(" = i ! & f [ ] ");
        Due.cannotGoOn("=i|i|i|i|i|i|i|i|i|i|i|i|i|i|i|i|i|i|i|i|i|i|i|i|i|i|i|i|i|+", 59);
        Due.cannotGoOn("=i|i|i|i|i|i|i|i|i|i|i|i|i|i|i|i|i|i|i|i|i|i|i|i|i|i|i|i|ii|", 58);
        Due.cannotGoOn("=i|i|i|i|i|i|i|i|i|i|i|i|i|i|i|i|i|i|i|i|i|i|i|i|i|i|i|i|i| ", 60);
    }

    private static void types() {
        Due.typeOf("i", I);
        Due.typeOf("f", F);
        Due.typeOf("s", S);
        Due.typeOf("n", N);
        Due.typeOf("?", ANY);
        Due.typeOf("U", ANY);
        Due.typeOf("[i|n]", (I | N) << 5);
        Due.typeOf("[[[s]]]", S << 15);
        Due.typeOf("[[[[s]]]]", ANY << 15);
        Due.typeOf("[[[[?]]]]", ANY << 15);
        Due.typeOf("[[[[[i]|s]]]]", ANY << 15);
        Due.typeOf("(i|n|[n])!", I | N << 5);
        Due.typeOf("([i]|[[s]]|?|n)[]", I | S << 5 | ANY);
        Due.typeOf("[?][]", ANY);
        Due.typeOf("[[?]][]", ANY << 5);
        Due.typeOf("i[]", 0);
        Due.typeOf("(i|s)&s", S);
        Due.typeOf("i&s", 0);
        Due.typeOf("?&n", N);
        Due.typeOf("[s]&s", 0);
        Due.typeOf("[?]&s", 0);
        Due.typeOf("i+i", I);
        Due.typeOf("i+f", F);
        Due.typeOf("f+i", F);
        Due.typeOf("f+f", F);
        Due.typeOf("s+s", S);
        Due.typeOf("n+n", 0);
        Due.typeOf("i+s", 0);
        Due.typeOf("(i|f)+(i|s)", I | F);
        Due.typeOf("?+n", ANY);
        Due.typeOf("[i]+?", ANY);
        Due.typeOf("i[]+?", 0);
        Due.typeOf("[i]+[s]", (I | S) << 5);
        Due.typeOf("[?]+[s]", (ANY | S) << 5);
        Due.typeOf("[i]+[[s]]", 0);
        Due.typeOf("[i]+i", 0);
        Due.typeOf("[[i]]+([[s]]|[n])", (I | S) << 10);
        Due.typeOf("i+i|s", I);
        Due.typeOf("i|s+i", I);
        Due.typeOf("(i+i)|s", I | S);
        Due.typeOf("[s]+[i]+s", 0);
        Due.typeOf("i+s+?", 0);
        Due.typeOf("i|n!", I);
        Due.typeOf("n|i!", I | N);
    }

    private static void declared() {
        Due.tells("A:i=s", 3, 5);
        Due.tells("A:i=?");
        Due.tells("A:i=?|n", 3, 5);
        Due.tells("A:i=n[]", 5, 3);
        Due.tells("A:?=s|[n]");
        Due.tells("A:s|? = i");
        Due.tells("A : [] = i", 4, 1);
        Due.tells("A:?[] = i", 6, 5);
        Due.tells("A:i=[?]", 3, 5);
        Due.tells("A:i|s[]=i|[s]");
        Due.tells("A:i|s[]=[i]", 7, 5);
    }

    private static void growing() {
        CheckDaemon x = new CheckDaemon();
        Due.put(x, 0, 0, "A=B");
        Due.put(x, 0, 1, "B=A");
        Due.due("nothing holds them up", 0, () -> x.symbol(0, 0, 0));
        Due.put(x, 0, 2, "A=i");
        Due.due("round the circle", I, () -> x.symbol(0, 1, 0));
        Due.due("gone again", 3, () -> x.put(0, 2));
        Due.due("they do not hold one another up", 0, () -> x.symbol(0, 1, 0));
        Due.put(x, 0, 2, "A=[B]|s");
        Due.due("lists grow to three, and ?", S | S << 5 | S << 10 | S << 15 | ANY << 15, () -> x.symbol(0, 0, 0));
        Due.put(x, 0, 3, "A:n=i");
        Due.due("a word joins", (S | N) * 0x8421 | ANY << 15, () -> x.symbol(0, 1, 0));
        Due.put(x, 0, 1, "B:f=A");
        Due.due("a word cuts it", F, () -> x.symbol(0, 1, 0));
        Due.due("A of what is left", F | S | N | F << 5, () -> x.symbol(0, 0, 0));
        CheckDaemon y = new CheckDaemon();
        for (int k = 0; k < 24; k++) {
            Due.put(y, k / 12, k % 12, (char) ('A' + k % 12) + "=" + (k + 1) % 24 / 12 + "." + (char) ('A' + (k + 1) % 12));
        }
        Due.due("a circle of twenty-four", 24, () -> y.count(3));
        Due.put(y, 7, 0, "=0.A");
        Due.due("all of it looked at, and one more", 25, () -> Due.put(y, 1, 5, "F=[1.G]|i"));
        Due.due("round it", (I * 0x8421) | ANY << 15, () -> y.symbol(1, 6, 0));
        Due.due("its reader too", (I * 0x8421) | ANY << 15, () -> y.line(7, 0, 2));
    }
}
