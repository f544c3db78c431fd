import java.lang.reflect.InvocationTargetException;
import java.lang.reflect.Method;
import java.lang.reflect.Modifier;
import java.util.Arrays;
import java.util.Comparator;
import java.util.NoSuchElementException;

/** What the tests share: the sentence that is tested, and answers held against what is due. */
abstract class Checks {
    /** What the document lets one object be used for; later answers are free, so no test may go by them. */
    static final int MOST_CALLS = 512;

    private static int wrong = 0;
    private static int tests = 0;
    private static String where = "";
    private static String words = "";

    /** A call that may throw. */
    interface Call {
        int answer();
    }

    /** From here on the tests are of these words of the document. */
    static void sentence(String part, String itsWords) {
        tests++;
        where = part;
        words = itsWords;
    }

    static void due(String call, long got, long want) {
        if (got != want) {
            tellWrong(call + " answered " + got + ", due is " + want);
        }
    }

    static void due(String call, boolean got, boolean want) {
        due(call, got ? 1 : 0, want ? 1 : 0);
    }

    static void due(String call, String got, String want) {
        if (!got.equals(want)) {
            tellWrong(call + " answered" + System.lineSeparator() + "  " + got + System.lineSeparator()
                + "due is" + System.lineSeparator() + "  " + want);
        }
    }

    static void dueThrow(String call, Call asked) {
        try {
            int got = asked.answer();
            tellWrong(call + " answered " + got + ", due is NoSuchElementException");
        } catch (NoSuchElementException e) {
            return;
        } catch (RuntimeException e) {
            tellWrong(call + " threw " + e + ", due is NoSuchElementException");
        }
    }

    private static void tellWrong(String what) {
        wrong++;
        System.out.println(where + (words.isEmpty() ? "" : ", \"" + words + "\"") + ": " + what);
    }

    /** Runs each method of a class that takes nothing and answers nothing, so that none is forgotten. */
    static void runAll(Class<?> testClass) {
        Method[] methods = testClass.getDeclaredMethods();
        Arrays.sort(methods, Comparator.comparing(Method::getName));
        for (Method method : methods) {
            boolean isTest = Modifier.isStatic(method.getModifiers()) && method.getParameterCount() == 0
                && method.getReturnType() == void.class && !method.isSynthetic();
            if (isTest) {
                run(method);
            }
        }
        finish();
    }

    private static void run(Method method) {
        try {
            method.invoke(null);
        } catch (InvocationTargetException e) {
            tellWrong(method.getName() + " ended with " + e.getCause());
        } catch (IllegalAccessException e) {
            tellWrong(method.getName() + " can't be run");
        }
    }

    static void finish() {
        System.out.println(wrong == 0 ? tests + " tests hold" : wrong + " answers are not as due");
        if (wrong != 0) {
            System.exit(1);
        }
    }

    /** Makes these signs THE TEXT, which must have been empty. */
    static void write(TypingPool x, String text) {
        for (int i = 0; i < text.length(); i += 4) {
            int v = 0;
            for (int k = 0; k < 4; k++) {
                v = v << 8 | (i + k < text.length() ? text.charAt(i + k) : 0);
            }
            x.sign(v);
        }
        x.end(text.length());
    }

    static int tell(TypingPool x, String text, int kind, int day) {
        x.end(0);
        write(x, text);
        return x.rule(kind, day);
    }

    /** A pool with one hand of a speed, which knows style 0 and no words. */
    static TypingPool poolWith(int speed) {
        TypingPool x = new TypingPool();
        x.hand(speed, 1, 0, 0);
        return x;
    }

    /** A plain piece of style 0 that is no secret. */
    static int plain(TypingPool x, int lines, int comes, int due) {
        return x.piece(0, 0, lines, 0, 0, comes, due, 0, 0);
    }

    static int told(TypingPool x, int[] p) {
        return x.piece(p[0], p[1], p[2], p[3], p[4], p[5], p[6], p[7], p[8]);
    }

    /** Steps until NOW is a minute. */
    static void goTo(TypingPool x, int minute) {
        while (x.count(0) < minute) {
            x.step(Math.min(960, minute - x.count(0)));
        }
    }

    static void dueRow(TypingPool x, int... numbers) {
        due("count(10)", x.count(10), numbers.length);
        for (int i = 0; i < Math.min(numbers.length, x.count(10)); i++) {
            due("row(" + i + ")", x.row(i), numbers[i]);
        }
        dueThrow("row(" + numbers.length + ")", () -> x.row(numbers.length));
    }
}
