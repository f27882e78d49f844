import java.util.NoSuchElementException;

/** What the tests share: counted checks, exceptions as answers, and texts put on the tape. */
final class Check {
    static final String ABSENT = "NoSuchElementException";
    static final String UNFIT = "IllegalArgumentException";
    static final String UNTIMELY = "IllegalStateException";

    private static int checks = 0;
    private static int wrong = 0;

    private Check() {
    }

    interface Call {
        long answer();
    }

    /** The answer of a call, or the name of the exception that it threw. */
    static String answer(Call call) {
        try {
            return Long.toString(call.answer());
        } catch (NoSuchElementException | IllegalArgumentException | IllegalStateException e) {
            return e.getClass().getSimpleName();
        }
    }

    static void due(String what, long want, Call call) {
        same(what, Long.toString(want), answer(call));
    }

    static void refused(String what, String exception, Call call) {
        same(what, exception, answer(call));
    }

    static void same(String what, String want, String got) {
        checks++;
        if (!want.equals(got)) {
            wrong++;
            if (wrong <= 40) {
                System.out.println(what + ": answered " + got + ", due is " + want);
            }
        }
    }

    static int wrongSoFar() {
        return wrong;
    }

    static void end(String name) {
        System.out.println(name + ": " + checks + " checks, " + wrong + " wrong");
        if (wrong != 0) {
            System.exit(1);
        }
    }

    /** Puts a text on the tape; the last row is filled up with zeros. */
    static void feed(ListedGoods x, String text) {
        for (int at = 0; at < text.length(); at += 20) {
            x.feed(four(text, at), four(text, at + 4), four(text, at + 8), four(text, at + 12), four(text, at + 16));
        }
    }

    private static int four(String text, int at) {
        int n = 0;
        for (int i = at; i < at + 4; i++) {
            n = n << 8 | (i < text.length() ? text.charAt(i) & 255 : 0);
        }
        return n;
    }

    static int house(ListedGoods x, String text) {
        feed(x, text);
        return x.house(text.length());
    }

    static int law(ListedGoods x, String text) {
        feed(x, text);
        return x.rules(text.length());
    }

    static ListedGoods with(String house, String law) {
        ListedGoods x = new ListedGoods();
        if (house(x, house) < 0 || law(x, law) < 0) {
            same("a test's own texts", "no fault", "fault at " + x.fault());
        }
        return x;
    }
}
