import java.lang.reflect.InvocationTargetException;
import java.lang.reflect.Method;
import java.util.Arrays;
import java.util.Comparator;
import java.util.function.LongSupplier;

/** Holds answers against single sentences of the document; each test quotes the one that it is of. */
final class Sentences {
    private final Doc doc;
    private String about = "";
    private String test = "";
    private int tests;
    private int asked;
    private int wrong;
    private int askedByTest;

    Sentences(Doc doc) {
        this.doc = doc;
    }

    /** Runs each method of a class that takes Sentences alone. */
    void all(Class<?> edges) throws IllegalAccessException {
        Method[] methods = edges.getDeclaredMethods();
        Arrays.sort(methods, Comparator.comparing(Method::getName));
        for (Method m : methods) {
            if (!Arrays.equals(m.getParameterTypes(), new Class<?>[] {Sentences.class})) continue;
            test = edges.getName() + "." + m.getName();
            about = "";
            askedByTest = 0;
            tests++;
            try {
                m.invoke(null, this);
            } catch (InvocationTargetException e) {
                fail("threw " + e.getCause() + " at " + e.getCause().getStackTrace()[0]);
            }
            if (about.isEmpty()) fail("quotes no sentence");
            if (askedByTest == 0) fail("asks nothing");
        }
    }

    /** Says which sentence the test is of. */
    void says(String section, String sentence) {
        about = section + ": " + sentence;
        if (!doc.quotes(section, sentence)) fail("the document does not say so");
    }

    void due(long got, long want) {
        asked++;
        askedByTest++;
        if (got != want) fail("answered " + got + ", due is " + want + ", " + line());
    }

    void holds(boolean isSo) {
        due(isSo ? 1 : 0, 1);
    }

    /** A call's answer, and what asked() tells behind it. */
    void told(BumpMap x, long got, long want, int asked) {
        due(got, want);
        due(x.asked(), asked);
    }

    /** A call's answer, which is 1, and what upper() and lower() tell behind it. */
    void upper(BumpMap x, long got, long upper) {
        due(got, 1);
        due(x.upper(), upper);
        due(x.lower(), 1);
    }

    /** A call that answers BAD, FULL, STATE (or NONE) and changes nothing at all. */
    void refused(BumpMap x, int want, LongSupplier call) {
        long[] before = seen(x);
        due(call.getAsLong(), want);
        same(seen(x), before);
    }

    /** A call that answers FINDING and changes nothing but finding(), findings(). */
    void found(BumpMap x, int finding, LongSupplier call) {
        long[] before = seen(x);
        due(call.getAsLong(), BumpMap.FINDING);
        before[0] = finding;
        before[finding]++;
        same(seen(x), before);
    }

    /** finding(), findings() by their numbers, then what else can be seen in a few calls. */
    private static long[] seen(BumpMap x) {
        return new long[] {x.finding(), x.findings(1), x.findings(2), x.findings(3), x.findings(4), x.findings(5),
            x.digest(), x.asked(), x.upper(), x.lower()};
    }

    private void same(long[] got, long[] want) {
        asked++;
        if (!Arrays.equals(got, want)) {
            fail("left " + Arrays.toString(got) + ", due is " + Arrays.toString(want) + ", " + line());
        }
    }

    /** A ROW that is there with just these ints. */
    void row(BumpMap x, int r, int... values) {
        for (int i = 0; i < values.length; i++) told(x, x.at(r, i), 1, values[i]);
        found(x, 2, () -> x.at(r, values.length));
    }

    void missing(BumpMap x, int r) {
        found(x, 1, () -> x.at(r, 0));
    }

    private void fail(String what) {
        wrong++;
        System.out.println(test + ": " + what + "\n  " + about);
    }

    /** The line of the test that asked. */
    private static String line() {
        for (StackTraceElement e : new Throwable().getStackTrace()) {
            if (!e.getClassName().equals(Sentences.class.getName())) return e.getFileName() + ":" + e.getLineNumber();
        }
        return "";
    }

    /** Each sentence of the Terms and of a promise must be quoted by a test. */
    void allQuoted() {
        for (String name : doc.names()) {
            if (!name.equals("Terms") && !name.startsWith("Promise ")) continue;
            asked++;
            for (String text : doc.left(name)) {
                wrong++;
                System.out.println(name + ": no test quotes «" + text + "»");
            }
        }
    }

    void end(String name) {
        System.out.println(name + ": " + tests + " tests, " + asked + " answers, " + wrong + " not as due");
        if (wrong != 0) System.exit(1);
    }
}
