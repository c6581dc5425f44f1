/** Promises 42 to 48: what is told behind a call, counts, findings, the digest. */
public final class ToldTest {
    private static final int BAD = BumpMap.BAD, STATE = BumpMap.STATE;
    private static final String LAND = "n3 r012 t121 s225 p104 v018 f129";
    private static final Check c = new Check("ToldTest");

    public static void main(String[] args) {
        asked();
        upper();
        count();
        findings();
        refusalsChangeNothing();
        digestOfANewOne();
        digestOfAll();
        constants();
        c.end();
    }

    private static void asked() {
        BumpMap x = Check.landed(LAND);
        Check.fill(x, 0, 2);
        x.row(1, 1);
        x.lay(1, 0, 77);
        x.lay(1, 0, 78);
        int[] silent = {x.row(2, 3), x.tear(2), x.copy(0, 0, 0, 0, 1), x.text(2, 2), x.put(2, 0, 9), x.fault(2),
            x.mark(1, 2), x.wheels(1), x.begin(0), x.undo(0), x.tell(3), x.keep(0), x.on(0), x.drives(0, 0),
            x.ends(0, 0), x.first(0, 0, 4), x.rounds(0, 2), x.loss(0), x.pave(0), x.lots(2, 5), x.count(0),
            x.findings(1), x.finding(), x.land(0)};
        for (int k = 0; k < silent.length; k++) c.holds("answered " + k, silent[k] != BAD);
        x.digest();
        x.upper();
        x.lower();
        c.due("asked stays by those that tell otherwise", x.asked(), 77);
        c.due("asked again", x.asked(), 77);
    }

    private static void upper() {
        BumpMap x = Check.landed(LAND);
        c.due("upper before", x.upper(), 0);
        c.due("lower before", x.lower(), 1);
        x.rounds(0, 2);
        c.due("upper", x.upper(), 9);
        Check.fill(x, 0, 2);
        x.drives(0, 0);
        c.due("upper", x.upper(), 1);
        x.drives(5, 0);
        x.drives(6, 0);
        x.rounds(0, 15);
        x.at(0, 0);
        c.due("upper stays", x.upper(), 1);
        c.due("lower", x.lower(), 1);
    }

    private static void count() {
        BumpMap x = Check.landed(LAND);
        x.row(0, 0);
        x.row(5, 4);
        x.text(3, 0);
        x.go(0);
        x.go(5);
        x.keep(2);
        int[] want = {3, 6, 2, 2, 2, 1, 2, 2};
        for (int what = 0; what < 8; what++) c.due("count " + what, x.count(what), want[what]);
        c.due("count 8", x.count(8), BAD);
        c.due("count -1", x.count(-1), BAD);
    }

    private static void findings() {
        BumpMap x = Check.landed(LAND);
        c.due("before any", x.finding(), 0);
        c.finds("1", x, x.at(0, 0), 1);
        x.row(0, 0);
        c.finds("2", x, x.at(0, 0), 2);
        c.finds("3", x, x.mark(0, 1), 3);
        c.finds("4", x, x.mean(0), 4);
        c.finds("5", x, x.row(0, -1), 5);
        c.finds("5", x, x.row(0, -2), 5);
        x.row(9, 0);
        x.here();
        c.due("the latest stays", x.finding(), 5);
        int[] want = {1, 1, 1, 1, 2};
        for (int f = 1; f <= 5; f++) c.due("findings " + f, x.findings(f), want[f - 1]);
        c.due("findings 0", x.findings(0), BAD);
        c.due("findings 6", x.findings(6), BAD);
        c.due("findings -1", x.findings(-1), BAD);
    }

    private static void refusalsChangeNothing() {
        BumpMap x = Check.landed(LAND);
        Check.fill(x, 0, 3, 11);
        x.go(0);
        x.rounds(0, 2);
        x.at(0, 1);
        long before = x.digest();
        int[] refused = {x.row(0, 41), x.row(0, -1), x.lay(0, 2, 5), x.copy(0, 0, 0, 1, 2), x.text(0, -1),
            x.text(0, 81), x.put(0, 80, 3), x.land(1), x.wheels(4), x.begin(7), x.go(2), x.undo(2), x.tell(6),
            x.keep(3), x.on(0), x.feels(0, 0, 1), x.first(0, 0, 1), x.drives(0, 0), x.where(0), x.slips(0, 0),
            x.next(0), x.look(8), x.marks(0), x.pave(3), x.lots(0, 1), x.mean(3)};
        for (int k = 0; k < refused.length; k++) c.holds("refused " + k, refused[k] < 0);
        c.due("digest stays", x.digest(), before);
        c.due("upper stays", x.upper(), 9);
        c.due("asked stays", x.asked(), 11);
        BumpMap y = new BumpMap();
        c.due("lands by blanks alone", y.text(0, 3), 3);
        c.due("lands by blanks alone", y.land(0), STATE);
        c.due("no places then", y.count(0), 0);
    }

    private static long digestOf(long... values) {
        long h = 17;
        for (long v : values) h = 31 * h + v;
        return h;
    }

    private static void digestOfANewOne() {
        BumpMap x = new BumpMap();
        c.due("digest of a new one", x.digest(), digestOf(0, 0, 0, 0, 0, 0, 0, 0, 1, 0, -1, -1, -1,
            -1, -1, -1, -1, -1, -1, -1, -1, -1, -1));
    }

    private static void digestOfAll() {
        BumpMap x = Check.landed("n2 r013 v118");
        x.go(0);
        x.wheels(2);
        x.go(1);
        x.keep(1);
        Check.fill(x, 4, -7, 2147483647);
        x.row(5, 0);
        x.text(2, 2);
        x.put(2, 1, 200);
        c.due("asked", x.asked(), 0);
        c.due("digest", x.digest(), digestOf(2, 2, 2, 1, 0, 1, 2, 2, 2,
            0, 0, 1, 3, 1, 5, 1, 1, 8, 1, 1, 0, 3, 1, 1, -1, 2, -1,
            -1, -1, -1, -1, 2, -7, 2147483647, 0,
            12, 110, 50, 32, 114, 48, 49, 51, 32, 118, 49, 49, 56, -1, 2, 32, -56, -1));
        c.due("digest leaves asked", x.asked(), 0);
    }

    private static void constants() {
        c.due("BAD", BumpMap.BAD, -1);
        c.due("FULL", BumpMap.FULL, -2);
        c.due("FINDING", BumpMap.FINDING, -3);
        c.due("STATE", BumpMap.STATE, -4);
        c.due("SPENT", BumpMap.SPENT, -6);
        c.due("NONE", BumpMap.NONE, -9);
    }
}
