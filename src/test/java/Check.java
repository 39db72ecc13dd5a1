import java.util.NoSuchElementException;

/** Compares answers with those that are due, and tells the wrong ones. */
final class Check {
    interface Call {
        int answer();
    }

    private static int wrong = 0;

    private Check() {
    }

    static String outcome(Call call) {
        try {
            return Integer.toString(call.answer());
        } catch (RuntimeException e) {
            // The very class is told, so that what the machine throws is never taken for what is due.
            return e.getClass().getName();
        }
    }

    static void same(String what, String got, String want) {
        if (!got.equals(want)) {
            wrong++;
            System.out.println(what + " answered " + got + ", due is " + want);
        }
    }

    static void due(String what, int want, Call call) {
        same(what, outcome(call), Integer.toString(want));
    }

    static void missing(String what, Call call) {
        same(what, outcome(call), NoSuchElementException.class.getName());
    }

    static void refused(String what, Call call) {
        same(what, outcome(call), IllegalArgumentException.class.getName());
    }

    static void notNow(String what, Call call) {
        same(what, outcome(call), IllegalStateException.class.getName());
    }

    static boolean anyWrong() {
        return wrong > 0;
    }

    static void end() {
        System.out.println(wrong == 0 ? "all answers are as due" : wrong + " answers are not as due");
        if (wrong != 0) {
            System.exit(1);
        }
    }

    /** Everything that the calls tell of an object's state, told without changing it. */
    static String state(NurseryRow x) {
        StringBuilder text = new StringBuilder();
        for (int what = 0; what <= 9; what++) {
            text.append(x.count(what)).append(' ');
        }
        for (int root = 0; root < 16; root++) {
            text.append(x.rooted(root)).append(' ');
        }
        for (int a = x.next(0); a != 0; a = x.next(a)) {
            text.append("\n@").append(a).append(':');
            for (int what = 0; what <= 3; what++) {
                text.append(' ').append(x.about(a, what));
            }
            for (int i = 0; i < x.about(a, 1); i++) {
                text.append(" f").append(x.get(a, i));
            }
            for (int i = 0; i < x.about(a, 2); i++) {
                text.append(" w").append(x.word(a, i));
            }
        }
        return text.toString();
    }
}
