import java.lang.reflect.Method;
import java.util.ArrayList;
import java.util.Arrays;
import java.util.Comparator;
import java.util.List;
import java.util.Random;

/** Runs of calls by lots, each answer held against the Model's; the lots are the same each time. */
public final class ModelTest {
    private static final int RUNS = 1500;
    private static final int CALLS = 500;
    private static final int[] WILD = {Integer.MIN_VALUE, -2147483647, -41, -2, -1, 0, 1, 40, 41, 80, 81, 127,
        128, 1000, 2147483646, Integer.MAX_VALUE};

    private final Random lots;
    private final BumpMap x = new BumpMap();
    private final Model model = new Model();
    private final List<String> said = new ArrayList<>();
    private boolean right = true;

    private ModelTest(long seed) {
        lots = new Random(seed);
    }

    public static void main(String[] args) throws Exception {
        List<Method> face = new ArrayList<>();
        for (Method m : BumpMap.class.getDeclaredMethods()) {
            if (java.lang.reflect.Modifier.isPublic(m.getModifiers())) face.add(m);
        }
        face.sort(Comparator.comparing(Method::getName));
        int wrong = 0;
        for (int run = 0; run < RUNS && wrong < 3; run++) {
            ModelTest test = new ModelTest(run);
            test.run(face);
            if (!test.right) wrong++;
        }
        System.out.println("ModelTest: " + RUNS + " runs, " + wrong + " not as due");
        if (wrong != 0) System.exit(1);
    }

    private void run(List<Method> face) throws Exception {
        int calls = 0;
        while (calls < CALLS - 110 && right) {
            calls += writeLand();
            int many = 20 + lots.nextInt(90);
            for (int k = 0; k < many && calls < CALLS && right; k++, calls++) one(face);
        }
        if (right) same("digest");
    }

    /** A land, mostly without a fault, put byte by byte; answers how many calls that took. */
    private int writeLand() throws Exception {
        String s = landText();
        int t = lots.nextInt(4);
        same("text", t, s.length());
        int calls = 1;
        for (int i = 0; i < s.length() && right; i++) {
            if (s.charAt(i) != ' ') {
                same("put", t, i, s.charAt(i));
                calls++;
            }
        }
        same("fault", t);
        same("land", t);
        return calls + 2;
    }

    private String landText() {
        int places = 1 + lots.nextInt(7);
        int roads = lots.nextInt(3) == 0 ? lots.nextInt(11) : 5 + lots.nextInt(6);
        int jolts = 1 + lots.nextInt(10);
        String letters = new String[] {"r", "rs", "rpsftv", "rrt", "rt", "rpsftv"}[lots.nextInt(6)];
        StringBuilder b = new StringBuilder(" ".repeat(lots.nextInt(2))).append('n').append(places);
        for (int i = 0; i < roads; i++) {
            b.append(" ".repeat(lots.nextInt(3)));
            b.append(letters.charAt(lots.nextInt(letters.length())));
            b.append(lots.nextInt(places)).append(lots.nextInt(places)).append(lots.nextInt(jolts));
        }
        if (lots.nextInt(8) == 0) {
            b.setCharAt(lots.nextInt(b.length()), "nrpsftvx0123456789 ".charAt(lots.nextInt(19)));
        }
        if (lots.nextInt(8) == 0) b.setLength(lots.nextInt(b.length()));
        if (b.length() > 80) b.setLength(80);
        return b.toString();
    }

    private void one(List<Method> face) throws Exception {
        int what = lots.nextInt(12);
        if (what == 0) {
            feltRow();
            return;
        }
        Method m = face.get(lots.nextInt(face.size()));
        if (m.getName().equals("land") && lots.nextInt(4) != 0) return;
        int[] a = new int[m.getParameterCount()];
        for (int i = 0; i < a.length; i++) {
            a[i] = lots.nextInt(40) == 0 ? WILD[lots.nextInt(WILD.length)] : argument(m.getName(), i);
        }
        same(m.getName(), a);
    }

    /** A row of felt numbers that may well be driven: what a drive felt, or few numbers. */
    private void feltRow() throws Exception {
        int r = lots.nextInt(6);
        if (lots.nextBoolean()) {
            same("begin", place());
            same("lots", 1 + lots.nextInt(17), 1 + lots.nextInt(1000));
            same("tell", r);
        } else {
            int n = lots.nextInt(8);
            same("row", r, n);
            for (int i = 0; i < n && right; i++) {
                same("lay", r, i, lots.nextInt(lots.nextBoolean() ? 2 : 10));
            }
        }
        String[] asks = {"drives", "ends", "where", "slips", "next", "marks", "first", "feels"};
        for (String ask : asks) {
            if (!right) return;
            boolean isOfRowAlone = ask.equals("where") || ask.equals("next") || ask.equals("marks");
            boolean isAnew = ask.equals("first") || ask.equals("feels");
            if (isOfRowAlone) same(ask, r);
            else if (isAnew) same(ask, r, place(), lots.nextInt(6));
            else same(ask, r, place());
        }
    }

    private int place() {
        return lots.nextInt(Math.max(1, model.placesThere()));
    }

    private int road() {
        return lots.nextInt(Math.max(1, model.roadsThere()));
    }

    private int argument(String name, int i) {
        switch (name) {
            case "row": return i == 0 ? lots.nextInt(6) : lots.nextInt(20) - 1;
            case "lay": return i == 0 ? lots.nextInt(6) : i == 1 ? lots.nextInt(10) : lots.nextInt(11) - 1;
            case "at": case "felt": return i == 0 && name.equals("at") ? lots.nextInt(6) : lots.nextInt(14);
            case "copy": return i == 0 || i == 2 ? lots.nextInt(6) : lots.nextInt(8) - 1;
            case "text": return i == 0 ? lots.nextInt(4) : lots.nextInt(60) - 1;
            case "put": return i == 0 ? lots.nextInt(4) : i == 1 ? lots.nextInt(60) : lots.nextInt(600) - 300;
            case "road": case "mark": return i == 0 ? road() : lots.nextInt(6);
            case "wheels": return 1 + lots.nextInt(3);
            case "go": case "pave": case "loss": return road();
            case "undo": return lots.nextInt(8);
            case "keep": case "on": return lots.nextInt(3);
            case "from": case "begin": case "apart": case "way": case "tour": return place();
            case "look": return lots.nextInt(1 << Math.max(1, model.placesThere()));
            case "rounds": return i == 0 ? place() : lots.nextInt(15);
            case "lots": return i == 0 ? 1 + lots.nextInt(40) : 1 + lots.nextInt(Integer.MAX_VALUE - 1);
            case "fault": case "land": return lots.nextInt(4);
            case "count": return lots.nextInt(9) - 1;
            case "findings": return lots.nextInt(7);
            default: return i == 1 ? place() : lots.nextInt(6);
        }
    }

    /**
     * One call on both; then what stays to be told must be the same, too. With that an object has
     * more than the 512 calls that the document promises: this program has no such end.
     */
    private void same(String name, int... a) throws Exception {
        if (!right) return;
        long want = model.call(name, a);
        long got = onProgram(name, a);
        said.add(name + Arrays.toString(a) + " = " + got);
        compare(name + Arrays.toString(a), got, want);
        compare("asked()", x.asked(), model.call("asked"));
        compare("upper()", x.upper(), model.call("upper"));
        compare("finding()", x.finding(), model.call("finding"));
        compare("digest()", x.digest(), model.call("digest"));
    }

    private void compare(String what, long got, long want) {
        if (got == want || !right) return;
        right = false;
        for (String s : said) System.out.println("  " + s);
        System.out.println(what + " answered " + got + ", due is " + want);
    }

    private long onProgram(String name, int... a) throws Exception {
        Class<?>[] types = new Class<?>[a.length];
        Arrays.fill(types, int.class);
        Object[] boxed = Arrays.stream(a).boxed().toArray();
        return ((Number) BumpMap.class.getMethod(name, types).invoke(x, boxed)).longValue();
    }
}
