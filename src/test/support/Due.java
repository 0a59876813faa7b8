/** What the project's tests share: typing texts, and telling answers that are not due. */
final class Due {
    static final int THROWS_ARGUMENT = Integer.MIN_VALUE;
    static final int THROWS_STATE = Integer.MIN_VALUE + 1;
    private static int wrong = 0;

    interface Call {
        int answer();
    }

    private Due() {
    }

    static int answerOf(Call call) {
        try {
            return call.answer();
        } catch (IllegalArgumentException e) {
            return e.getClass() == IllegalArgumentException.class ? THROWS_ARGUMENT : THROWS_STATE + 1;
        } catch (IllegalStateException e) {
            return e.getClass() == IllegalStateException.class ? THROWS_STATE : THROWS_STATE + 1;
        }
    }

    static void due(String what, int want, Call call) {
        due(what, want, answerOf(call));
    }

    static void due(String what, int want, int got) {
        if (got != want) {
            wrong++;
            System.out.println(what + " answered " + got + ", due is " + want);
        }
    }

    static void noState(String what, Call call) {
        due(what, THROWS_STATE, call);
    }

    static void noArgument(String what, Call call) {
        due(what, THROWS_ARGUMENT, call);
    }

    static int[] packed(String text) {
        int[] numbers = new int[5];
        for (int k = 0; k < text.length(); k++) {
            numbers[k / 4] |= text.charAt(k) << 24 - 8 * (k % 4);
        }
        return numbers;
    }

    static int typeIn(CheckDaemon x, String text) {
        int length = 0;
        for (int from = 0; from < text.length(); from += 20) {
            int[] n = packed(text.substring(from, Math.min(text.length(), from + 20)));
            length = x.type(n[0], n[1], n[2], n[3], n[4]);
        }
        return length;
    }

    static int put(CheckDaemon x, int module, int line, String text) {
        typeIn(x, text);
        return x.put(module, line);
    }

    static int wrongCount() {
        return wrong;
    }

    static void end() {
        System.out.println(wrong == 0 ? "all answers are as due" : wrong + " answers are not as due");
        if (wrong != 0) {
            System.exit(1);
        }
    }
}
