/** What the project's tests share: typing texts, and telling answers that are not due. */
final class Due {
    static final int THROWS_ARGUMENT = Integer.MIN_VALUE;
    static final int THROWS_STATE = Integer.MIN_VALUE + 1;
    private static int wrong = 0;
    private static String sentence = "";

    interface Call {
        int answer();
    }

    private Due() {
    }

    /** Runs each test by itself, so that one that breaks off does not hide the others. */
    static void each(Runnable... tests) {
        for (Runnable test : tests) {
            try {
                test.run();
            } catch (RuntimeException e) {
                wrong++;
                System.out.println(sentence + "broke off with " + e);
            }
        }
    }

    /** The document's sentence that the answers from here on are held against. */
    static void sentence(String text) {
        sentence = text + ": ";
    }

    static int answerOf(Call call) {
        try {
            return call.answer();
        } catch (IllegalArgumentException e) {
            return e.getClass() == IllegalArgumentException.class ? THROWS_ARGUMENT : THROWS_STATE + 1;
        } catch (IllegalStateException e) {
            return e.getClass() == IllegalStateException.class ? THROWS_STATE : THROWS_STATE + 1;
        }
    }

    static void due(String what, int want, Call call) {
        due(what, want, answerOf(call));
    }

    static void due(String what, int want, int got) {
        if (got != want) {
            wrong++;
            System.out.println(sentence + what + " answered " + got + ", due is " + want);
        }
    }

    static void noState(String what, Call call) {
        due(what, THROWS_STATE, call);
    }

    static void noArgument(String what, Call call) {
        due(what, THROWS_ARGUMENT, call);
    }

    static int[] packed(String text) {
        int[] numbers = new int[5];
        for (int k = 0; k < text.length(); k++) {
            numbers[k / 4] |= text.charAt(k) << 24 - 8 * (k % 4);
        }
        return numbers;
    }

    static int typeIn(CheckDaemon x, String text) {
        int length = 0;
        for (int from = 0; from < text.length(); from += 20) {
            int[] n = packed(text.substring(from, Math.min(text.length(), from + 20)));
            length = x.type(n[0], n[1], n[2], n[3], n[4]);
        }
        return length;
    }

    static int put(CheckDaemon x, int module, int line, String text) {
        typeIn(x, text);
        return x.put(module, line);
    }

    /** A new object with these lines at the places 0, 1 and on of MODULE 0. */
    static CheckDaemon with(String... texts) {
        CheckDaemon x = new CheckDaemon();
        for (int line = 0; line < texts.length; line++) {
            put(x, 0, line, texts[line]);
        }
        return x;
    }

    /** What a line that stands alone, at a place that is not the first, tells: place, code, place, code and on. */
    static void tells(String text, int... placesAndCodes) {
        CheckDaemon x = new CheckDaemon();
        put(x, 6, 5, text);
        int size = placesAndCodes.length / 2;
        due(text + ": how many", size, () -> x.line(6, 5, 3));
        due(text + ": how many in all", size, () -> x.count(0));
        for (int each = 0; each < size; each++) {
            int k = each;
            due(text + ": module", 6, () -> x.diagnostic(k, 0));
            due(text + ": line", 5, () -> x.diagnostic(k, 1));
            due(text + ": place " + k, placesAndCodes[2 * k], () -> x.diagnostic(k, 2));
            due(text + ": code " + k, placesAndCodes[2 * k + 1], () -> x.diagnostic(k, 3));
        }
        due(text + ": no more", -1, () -> x.diagnostic(size, 0));
    }

    /** All that is told: module, line, place, code of each, in its order. */
    static void allTold(CheckDaemon x, int... fours) {
        due("diagnostics", fours.length / 4, () -> x.count(0));
        for (int each = 0; each < fours.length; each++) {
            int at = each;
            due("diagnostic " + at / 4 + ", what " + at % 4, fours[at], () -> x.diagnostic(at / 4, at % 4));
        }
        due("diagnostic beyond the last", -1, () -> x.diagnostic(fours.length / 4, 0));
    }

    static void cannotGoOn(String text, int place) {
        tells(text, place, CheckDaemon.SYNTAX);
    }

    static void typeOf(String expression, int want) {
        CheckDaemon x = with("=" + expression);
        due("the type of " + expression, want, () -> x.line(0, 0, 2));
    }

    static int wrongCount() {
        return wrong;
    }

    static void end() {
        System.out.println(wrong == 0 ? "all answers are as due" : wrong + " answers are not as due");
        if (wrong != 0) {
            System.exit(1);
        }
    }
}
