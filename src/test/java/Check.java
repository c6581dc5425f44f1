/** Counts answers that are not the due ones, and sets objects up for the tests. */
final class Check {
    private final String name;
    private int asked;
    private int wrong;

    Check(String name) {
        this.name = name;
    }

    void due(String what, long got, long want) {
        asked++;
        if (got != want) {
            wrong++;
            System.out.println(name + ": " + what + " answered " + got + ", due is " + want);
        }
    }

    void holds(String what, boolean isSo) {
        due(what, isSo ? 1 : 0, 1);
    }

    /** A call that was refused by a FINDING, which is the latest one then. */
    void finds(String what, BumpMap x, long got, int finding) {
        due(what, got, BumpMap.FINDING);
        due(what + ": finding()", x.finding(), finding);
    }

    /** A call's answer and what asked() tells behind it. */
    void told(String what, BumpMap x, long got, long want, int asked) {
        due(what, got, want);
        due(what + ": asked()", x.asked(), asked);
    }

    void rowIs(String what, BumpMap x, int r, int... values) {
        for (int i = 0; i < values.length; i++) {
            due(what + ": at " + i, x.at(r, i), 1);
            due(what + ": place " + i, x.asked(), values[i]);
        }
        due(what + ": no place " + values.length, x.at(r, values.length), BumpMap.FINDING);
        due(what + ": its size", x.finding(), 2);
    }

    void end() {
        System.out.println(name + ": " + asked + " answers, " + wrong + " not as due");
        if (wrong != 0) {
            System.exit(1);
        }
    }

    static void write(BumpMap x, int t, String s) {
        x.text(t, s.length());
        for (int i = 0; i < s.length(); i++) {
            if (s.charAt(i) != ' ') {
                x.put(t, i, s.charAt(i));
            }
        }
    }

    static BumpMap landed(String s) {
        BumpMap x = new BumpMap();
        write(x, 0, s);
        x.land(0);
        return x;
    }

    static void fill(BumpMap x, int r, int... values) {
        x.row(r, values.length);
        for (int i = 0; i < values.length; i++) {
            x.lay(r, i, values[i]);
        }
    }
}
