import java.lang.reflect.InvocationTargetException;
import java.lang.reflect.Method;
import java.lang.reflect.Modifier;
import java.util.Arrays;
import java.util.NoSuchElementException;

/** What the tests share: counted checks, exceptions as answers, and texts put on the tape. */
final class Check {
    static final String ABSENT = "NoSuchElementException";
    static final String UNFIT = "IllegalArgumentException";
    static final String UNTIMELY = "IllegalStateException";

    private static int checks = 0;
    private static int wrong = 0;
    private static String sentence = "";

    private Check() {
    }

    interface Call {
        long answer();
    }

    /** The answer of a call, or the name of the exception that it threw. */
    static String answer(Call call) {
        try {
            return Long.toString(call.answer());
        } catch (NoSuchElementException | IllegalArgumentException | IllegalStateException e) {
            return e.getClass().getSimpleName();
        }
    }

    static void due(String what, long want, Call call) {
        same(what, Long.toString(want), answer(call));
    }

    static void refused(String what, String exception, Call call) {
        same(what, exception, answer(call));
    }

    static void same(String what, String want, String got) {
        checks++;
        if (!want.equals(got)) {
            wrong++;
            if (wrong <= 40) {
                System.out.println(sentence + what + ": answered " + got + ", due is " + want);
            }
        }
    }

    /** Names the sentence of the document that the checks from here on stand for. */
    static void sentence(String words) {
        sentence = "\"" + words + "\" ";
    }

    /** Runs each test of a class, that is each static method without parameters, by its name. */
    static void runAll(Class<?> tests) throws IllegalAccessException {
        Method[] methods = tests.getDeclaredMethods();
        Arrays.sort(methods, (a, b) -> a.getName().compareTo(b.getName()));
        for (Method m : methods) {
            if (!Modifier.isStatic(m.getModifiers()) || m.isSynthetic() || m.getParameterCount() > 0
                    || m.getReturnType() != void.class) {
                continue;
            }
            int before = checks;
            try {
                m.invoke(null);
            } catch (InvocationTargetException e) {
                same(m.getName(), "an end", e.getCause().toString());
            }
            if (checks == before) {
                same(m.getName(), "checks", "none");
            }
        }
        sentence = "";
        end(tests.getSimpleName());
    }

    static int wrongSoFar() {
        return wrong;
    }

    static void end(String name) {
        System.out.println(name + ": " + checks + " checks, " + wrong + " wrong");
        if (wrong != 0) {
            System.exit(1);
        }
    }

    /** Puts a text on the tape; the last row is filled up with zeros. */
    static void feed(ListedGoods x, String text) {
        for (int at = 0; at < text.length(); at += 20) {
            x.feed(four(text, at), four(text, at + 4), four(text, at + 8), four(text, at + 12), four(text, at + 16));
        }
    }

    private static int four(String text, int at) {
        int n = 0;
        for (int i = at; i < at + 4; i++) {
            n = n << 8 | (i < text.length() ? text.charAt(i) & 255 : 0);
        }
        return n;
    }

    static int house(ListedGoods x, String text) {
        feed(x, text);
        return x.house(text.length());
    }

    static int law(ListedGoods x, String text) {
        feed(x, text);
        return x.rules(text.length());
    }

    static ListedGoods with(String house, String law) {
        ListedGoods x = new ListedGoods();
        if (house(x, house) < 0 || law(x, law) < 0) {
            same("a test's own texts", "no fault", "fault at " + x.fault());
        }
        return x;
    }

    static void houseFault(int kind, int place, String text) {
        ListedGoods x = new ListedGoods();
        due("house '" + text + "'", kind - 10, () -> house(x, text));
        due("its place in '" + text + "'", place, x::fault);
        due("nothing told by it", 0, () -> x.told(0));
    }

    static void houseStands(int goods, String text) {
        ListedGoods x = new ListedGoods();
        due("house '" + text + "'", goods, () -> house(x, text));
        due("no fault in '" + text + "'", -1, x::fault);
    }

    static void lawFault(int kind, int place, String text) {
        ListedGoods x = new ListedGoods();
        due("law '" + text + "'", kind - 10, () -> law(x, text));
        due("its place in '" + text + "'", place, x::fault);
        due("no rules by it", 0, () -> x.told(3));
    }

    static void lawStands(int rules, String text) {
        ListedGoods x = new ListedGoods();
        due("law '" + text + "'", rules, () -> law(x, text));
        due("no fault in '" + text + "'", -1, x::fault);
        due("its rules", rules, () -> x.told(3));
    }

    /** All that can be asked without a change, but for what status() tells; 512 calls last for some four of these. */
    static String all(ListedGoods x) {
        StringBuilder s = new StringBuilder();
        s.append(x.fault()).append(' ').append(x.wrong()).append(' ').append(x.count(0)).append(' ').append(x.count(1));
        for (int what = 0; what <= 5; what++) {
            s.append(" told ").append(x.told(what));
        }
        for (int p = 0; p < x.told(0); p++) {
            for (int what = 0; what <= 4; what++) {
                s.append(" person ").append(x.person(p, what));
            }
            s.append(' ').append(x.spare(p, 0)).append(' ').append(x.spare(p, 35)).append(' ').append(x.income(p, 0));
        }
        for (int g = 0; g < x.told(1); g++) {
            for (int what = 0; what <= 5; what++) {
                s.append(" good ").append(x.good(g, what));
            }
        }
        for (int d = 0; d < x.told(2); d++) {
            for (int what = 0; what <= 4; what++) {
                s.append(" debt ").append(x.debt(d, what));
            }
        }
        for (int i = 0; i < x.told(4); i++) {
            for (int what = 0; what <= 3; what++) {
                s.append(" act ").append(x.act(i, what));
            }
        }
        for (int i = 0; i < x.told(5); i++) {
            s.append(" kept ").append(x.kept(i, 0)).append(' ').append(x.kept(i, 1)).append(' ').append(x.kept(i, 2));
        }
        return s.toString();
    }

    /** A call that throws, and leaves all as it was but for one more in what status() tells of that exception. */
    static void refusedAndAllStays(String what, String exception, ListedGoods x, Call call) {
        int kind = exception.equals(ABSENT) ? 0 : exception.equals(UNFIT) ? 1 : 2;
        int[] counts = {x.status(0), x.status(1), x.status(2)};
        counts[kind]++;
        String before = all(x);
        refused(what, exception, call);
        same(what + ", all stays", before, all(x));
        for (int k = 0; k < 3; k++) {
            int kk = k;
            due(what + ", counted " + k, counts[k], () -> x.status(kk));
        }
    }
}
