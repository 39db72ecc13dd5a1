import java.util.NoSuchElementException;

/** Compares answers with those that are due, and tells the wrong ones. */
final class Check {
    interface Call {
        int answer();
    }

    private static int wrong = 0;

    private Check() {
    }

    static String outcome(Call call) {
        try {
            return Integer.toString(call.answer());
        } catch (RuntimeException e) {
            // The very class is told, so that what the machine throws is never taken for what is due.
            return e.getClass().getName();
        }
    }

    static void same(String what, String got, String want) {
        if (!got.equals(want)) {
            wrong++;
            System.out.println(what + " answered " + got + ", due is " + want);
        }
    }

    static void due(String what, int want, Call call) {
        same(what, outcome(call), Integer.toString(want));
    }

    /** Any answer will do, but an answer it must be. */
    static void answers(String what, Call call) {
        String got = outcome(call);
        same(what, got, got.contains("Exception") ? "any number" : got);
    }

    static void missing(String what, Call call) {
        same(what, outcome(call), NoSuchElementException.class.getName());
    }

    static void refused(String what, Call call) {
        same(what, outcome(call), IllegalArgumentException.class.getName());
    }

    static void notNow(String what, Call call) {
        same(what, outcome(call), IllegalStateException.class.getName());
    }

    /** A call on an object that is handed to it. */
    interface CallOn {
        int answer(NurseryRow x);
    }

    private static void kept(String what, NurseryRow x, Class<?> want, CallOn call) {
        String before = state(x);
        same(what, outcome(() -> call.answer(x)), want.getName());
        same(what + ": the state behind it", state(x), before);
    }

    /** Throws, and leaves all as it was. A new object each time: one answers for 512 calls alone. */
    static void keptWhenMissing(String what, CallOn call) {
        kept(what, Sample.small(), NoSuchElementException.class, call);
    }

    static void keptWhenRefused(String what, CallOn call) {
        kept(what, Sample.small(), IllegalArgumentException.class, call);
    }

    static void keptWhenNotNow(String what, NurseryRow x) {
        kept(what, x, IllegalStateException.class, y -> y.collect());
    }

    static boolean anyWrong() {
        return wrong > 0;
    }

    static void end() {
        System.out.println(wrong == 0 ? "all answers are as due" : wrong + " answers are not as due");
        if (wrong != 0) {
            System.exit(1);
        }
    }

    private static int limitOf(NurseryRow x) {
        int n = x.limit(0);
        x.limit(n);
        return n;
    }

    /** Everything that the calls tell of an object's state but its sizes, told without changing it. */
    static String state(NurseryRow x) {
        StringBuilder text = new StringBuilder();
        text.append("limit ").append(limitOf(x)).append(", ");
        for (int what = 0; what <= 9; what++) {
            text.append(x.count(what)).append(' ');
        }
        for (int root = 0; root < 16; root++) {
            text.append(x.rooted(root)).append(' ');
        }
        for (int a = x.next(0); a != 0; a = x.next(a)) {
            text.append("\n@").append(a).append(':');
            for (int what = 0; what <= 3; what++) {
                text.append(' ').append(x.about(a, what));
            }
            int fields = x.about(a, 1);
            for (int i = 0; i < fields; i++) {
                text.append(" f").append(x.get(a, i));
            }
            int words = x.about(a, 2);
            for (int i = 0; i < words; i++) {
                text.append(" w").append(x.word(a, i));
            }
        }
        return text.toString();
    }
}
