/** Promises 25 to 34: from felt rows to drives, what feels alike, marks. */
public final class FeltTest {
    private static final int NOTHING = 1, UNLIKE = 3, SIZE = 5;
    private static final int BAD = BumpMap.BAD, NONE = BumpMap.NONE, STATE = BumpMap.STATE;
    private static final String SQUARE = "n4 r012 r122 r232 r302";
    private static final String DOWN = "n3 r011 t122";
    /** 0 and 1 let drive the same rows, though no place behind 1 has both of what is behind 0. */
    private static final String PARTED = "n6 t021 t252 t253 t131 t141 t352 t453";
    private static final Check c = new Check("FeltTest");

    private interface Ask {
        int of(BumpMap x, int r, int p);
    }

    public static void main(String[] args) {
        refusals("drives", (x, r, p) -> x.drives(r, p), 16, true);
        refusals("ends", (x, r, p) -> x.ends(r, p), 16, true);
        refusals("first", (x, r, p) -> x.first(r, p, 3), 16, true);
        refusals("slips", (x, r, p) -> x.slips(r, p), 16, true);
        refusals("where", (x, r, p) -> x.where(r), 16, false);
        refusals("next", (x, r, p) -> x.next(r), 15, false);
        refusals("marks", (x, r, p) -> x.marks(r), 6, false);
        drives();
        ends();
        first();
        where();
        slips();
        next();
        apart();
        apartByTheFirst();
        unlike();
        look();
        marks();
        c.end();
    }

    private static void refusals(String name, Ask ask, int most, boolean hasPlace) {
        BumpMap x = Check.landed(SQUARE);
        c.due(name + " BAD", ask.of(x, -1, 0), BAD);
        c.due(name + " BAD", ask.of(x, 6, 0), BAD);
        if (hasPlace) {
            c.due(name + " BAD ahead of NOTHING", ask.of(x, 0, 4), BAD);
            c.due(name + " BAD", ask.of(x, 0, -1), BAD);
        }
        c.finds(name + " NOTHING", x, ask.of(x, 0, 0), NOTHING);
        x.row(0, most);
        c.holds(name + ": as many as may be", ask.of(x, 0, 0) != BumpMap.FINDING);
        x.row(0, most + 1);
        c.finds(name + " SIZE", x, ask.of(x, 0, 0), SIZE);
        x.lay(0, 0, 10);
        c.finds(name + " SIZE ahead of UNLIKE", x, ask.of(x, 0, 0), SIZE);
        Check.fill(x, 0, 2, 10);
        c.finds(name + " UNLIKE", x, ask.of(x, 0, 0), UNLIKE);
        Check.fill(x, 0, -1, 2);
        c.finds(name + " UNLIKE", x, ask.of(x, 0, 0), UNLIKE);
        c.due(name + " refused: asked", x.asked(), 0);
        c.due(name + ": findings", x.findings(UNLIKE), 2);
    }

    private static void drives() {
        BumpMap x = Check.landed(SQUARE);
        Check.fill(x, 0, 2, 2);
        c.due("drives", x.drives(0, 0), 1);
        c.due("two by two", x.upper(), 4);
        c.due("lower", x.lower(), 1);
        Check.fill(x, 0, 2, 3);
        c.due("none", x.drives(0, 0), 1);
        c.due("none", x.upper(), 0);
        x.row(0, 0);
        x.drives(0, 3);
        c.due("the drive of no roads", x.upper(), 1);
        BumpMap y = Check.landed("n1" + "r000".repeat(10));
        y.row(0, 16);
        y.drives(0, 0);
        c.due("ten to the 16", y.upper(), 10000000000000000L);
        c.due("a round counts once", y.count(1), 10);
    }

    private static void ends() {
        BumpMap x = Check.landed(SQUARE);
        Check.fill(x, 0, 2, 2);
        c.due("ends", x.ends(0, 0), 5);
        Check.fill(x, 0, 2, 2, 2);
        c.due("ends", x.ends(0, 0), 10);
        Check.fill(x, 0, 1);
        c.due("none", x.ends(0, 0), 0);
        x.row(0, 0);
        c.due("where it began", x.ends(0, 3), 8);
    }

    private static void first() {
        BumpMap x = Check.landed("n4 r012 r022 r131 r232 r202");
        Check.fill(x, 0, 2, 2, 2);
        c.due("first", x.first(0, 0, 1), 1);
        c.rowIs("first", x, 1, 0, 0, 0);
        Check.fill(x, 0, 2, 1);
        c.due("first over 1", x.first(0, 0, 1), 3);
        c.rowIs("first over 1", x, 1, 0, 2);
        BumpMap y = Check.landed("n4 r012 r022 r235");
        Check.fill(y, 0, 2, 5);
        c.due("the first road is no way on", y.first(0, 0, 0), 3);
        c.rowIs("to the same row", y, 0, 1, 2);
        Check.fill(y, 0, 5, 5);
        Check.fill(y, 1, 8, 8, 8);
        c.due("none", y.first(0, 0, 1), NONE);
        Check.fill(y, 2, 2, 2);
        c.due("back at 0", y.first(2, 0, 2), 0);
        c.rowIs("the row stays", y, 1, 8, 8, 8);
        y.row(0, 0);
        c.due("no roads", y.first(0, 2, 1), 2);
        c.rowIs("no roads", y, 1);
        c.due("first BAD", y.first(0, 0, 6), BAD);
        c.due("first BAD", y.first(0, 0, -1), BAD);
    }

    private static void where() {
        BumpMap x = Check.landed(DOWN);
        Check.fill(x, 0, 4);
        c.told("where", x, x.where(0), 4, 2);
        Check.fill(x, 0, 1, 4);
        c.told("where", x, x.where(0), 4, 1);
        Check.fill(x, 0, 1);
        c.told("where", x, x.where(0), 3, 3);
        Check.fill(x, 0, 7);
        c.told("nowhere", x, x.where(0), 0, 0);
        x.row(0, 0);
        c.told("anywhere", x, x.where(0), 7, 7);
    }

    private static void slips() {
        BumpMap x = Check.landed(DOWN);
        Check.fill(x, 0, 1, 4);
        c.told("no slip", x, x.slips(0, 0), 0, 2);
        Check.fill(x, 0, 4, 4);
        c.told("one slip", x, x.slips(0, 0), 1, 2);
        Check.fill(x, 0, 9, 9);
        c.told("two slips, the least place", x, x.slips(0, 0), 2, 0);
        c.told("two slips from 1, which can't go by 2", x, x.slips(0, 1), 2, 1);
        c.due("none", x.slips(0, 2), NONE);
        c.due("asked stays", x.asked(), 1);
        x.row(0, 0);
        c.told("no roads", x, x.slips(0, 2), 0, 2);
    }

    private static void next() {
        BumpMap x = Check.landed(DOWN);
        Check.fill(x, 1, 4);
        x.row(0, 0);
        c.told("next", x, x.next(0), 4, 1);
        Check.fill(x, 0, 1);
        c.told("next", x, x.next(0), 4, 1);
        c.due("it can't go on", x.next(1), NONE);
        c.due("asked stays", x.asked(), 1);
        BumpMap y = Check.landed("n4 r012 r122 r015 r125 r017 r233");
        y.row(0, 0);
        c.told("the first of 3, 7", y, y.next(0), 3, 2);
        Check.fill(y, 0, 7);
        c.told("from 0, 1: the first of 2, 5 or 7", y, y.next(0), 7, 2);
        Check.fill(y, 0, 3, 3);
        c.told("of 2, 3, 5", y, y.next(0), 2, 1);
        BumpMap z = Check.landed("n7 r010 r120 r230 r340 r450 r560");
        z.row(0, 15);
        c.told("no number but 0, all seven", z, z.next(0), 0, 7);
    }

    private static void apart() {
        BumpMap x = Check.landed("n4 t011 t121 t231");
        c.told("apart 0, 1", x, x.apart(0, 1), 3, 0);
        c.told("apart 2, 1", x, x.apart(2, 1), 2, 1);
        c.told("apart 3, 2", x, x.apart(3, 2), 1, 2);
        c.told("apart 0, 3", x, x.apart(0, 3), 1, 0);
        c.due("apart 3, 3", x.apart(3, 3), NONE);
        c.due("asked stays", x.asked(), 0);
        c.due("apart BAD", x.apart(4, 0), BAD);
        c.due("apart BAD", x.apart(0, 4), BAD);
        c.due("apart BAD", x.apart(-1, -1), BAD);
        BumpMap y = Check.landed(PARTED);
        c.due("the same rows, parted late", y.apart(0, 1), NONE);
        c.told("apart 2, 3", y, y.apart(3, 2), 1, 2);
        BumpMap z = Check.landed(SQUARE);
        c.due("a square", z.apart(0, 2), NONE);
    }

    private static void apartByTheFirst() {
        BumpMap x = Check.landed("n3 t021 t123");
        c.told("2 goes from 0, 6 from 1", x, x.apart(0, 1), 1, 0);
        c.told("2 goes from 0, 6 from 1", x, x.apart(1, 0), 1, 0);
        BumpMap y = Check.landed("n6 t021 t131 t242 t253 t354 t343");
        c.told("24 goes from 0, 28 from 1", y, y.apart(1, 0), 2, 0);
        c.told("24 goes from 0, 28 from 1", y, y.apart(0, 1), 2, 0);
    }

    private static void unlike() {
        BumpMap x = Check.landed(PARTED);
        c.told("unlike", x, x.unlike(), 5, 3);
        BumpMap y = Check.landed(SQUARE);
        c.told("all alike", y, y.unlike(), 1, 15);
        y.pave(0);
        c.told("no more", y, y.unlike(), 2, 3);
        y.wheels(3);
        c.told("by three wheels", y, y.unlike(), 1, 15);
        BumpMap z = Check.landed("n3");
        c.told("lonely ones are alike", z, z.unlike(), 1, 7);
        c.due("without places", new BumpMap().unlike(), STATE);
    }

    private static void look() {
        BumpMap x = Check.landed(PARTED);
        c.told("look", x, x.look(63), 5, 3);
        c.told("look", x, x.look(60), 4, 4);
        c.told("look at one", x, x.look(32), 1, 32);
        c.told("look at none", x, x.look(0), 0, 0);
        c.due("look BAD", x.look(64), BAD);
        c.due("look BAD", x.look(-1), BAD);
        BumpMap y = Check.landed("n4 r031 r122");
        c.told("the first of alike ones", y, y.look(15), 2, 9);
        c.told("the greatest", y, y.look(7), 2, 6);
        BumpMap z = Check.landed("n3 r010 r112");
        c.told("0 is a number, too: {0}, {0 2}, {}", z, z.look(7), 3, 1);
        c.told("nothing is no number", z, z.look(5), 2, 1);
    }

    private static void marks() {
        BumpMap x = Check.landed("n1 r001 r001 r001 r002 r003 r003");
        Check.fill(x, 0, 1, 1, 2);
        c.told("marks", x, x.marks(0), 6, 8);
        Check.fill(x, 0, 1, 1, 1);
        c.told("all of them", x, x.marks(0), 6, 7);
        Check.fill(x, 0, 1, 1, 1, 1);
        c.told("too many", x, x.marks(0), 0, 0);
        Check.fill(x, 0, 2, 9);
        c.told("no way", x, x.marks(0), 0, 0);
        Check.fill(x, 0, 3, 2, 3);
        c.told("marks", x, x.marks(0), 2, 56);
        x.row(0, 0);
        c.told("no marks", x, x.marks(0), 1, 0);
        BumpMap y = Check.landed("n1" + "r000".repeat(10));
        y.row(0, 6);
        c.told("most ways", y, y.marks(0), 151200, 0);
        BumpMap z = Check.landed("n1 r001");
        z.row(0, 1);
        c.told("what is no road has no mark", z, z.marks(0), 0, 0);
    }
}
