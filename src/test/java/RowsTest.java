/** Promises 1 to 15: rows, texts, lands, their roads and carts. */
public final class RowsTest {
    private static final int NOTHING = 1, BEYOND = 2, UNLIKE = 3, NOUGHT = 4, SIZE = 5;
    private static final int BAD = BumpMap.BAD, STATE = BumpMap.STATE, NONE = BumpMap.NONE;
    private static final int LEAST = Integer.MIN_VALUE, MOST = Integer.MAX_VALUE;
    private static final Check c = new Check("RowsTest");

    public static void main(String[] args) {
        newObject();
        row();
        layAndAt();
        tear();
        copy();
        mean();
        textAndPut();
        faultsOfTheHead();
        faultsOfRoads();
        land();
        road();
        feelsByWheels();
        mark();
        wheels();
        from();
        c.end();
    }

    private static void newObject() {
        BumpMap x = new BumpMap();
        for (int what = 0; what < 8; what++) c.due("new: count " + what, x.count(what), 0);
        c.due("new: asked", x.asked(), 0);
        c.due("new: upper", x.upper(), 0);
        c.due("new: lower", x.lower(), 1);
        c.due("new: finding", x.finding(), 0);
        for (int f = 1; f <= 5; f++) c.due("new: findings " + f, x.findings(f), 0);
        c.due("new: here", x.here(), STATE);
        c.due("new: from", x.from(0), BAD);
        c.due("new: go", x.go(0), BAD);
        c.due("new: road", x.road(0, 0), BAD);
        c.due("new: undo nothing", x.undo(0), 0);
        c.due("new: undo", x.undo(1), BAD);
        c.due("new: keep", x.keep(0), STATE);
        c.due("new: unlike", x.unlike(), STATE);
        c.due("new: lots", x.lots(1, 1), STATE);
        c.due("new: best", x.best(), NONE);
        c.told("new: look", x, x.look(0), 0, 0);
        c.due("new: look beyond", x.look(1), BAD);
        c.due("new: tell", x.tell(0), 0);
        c.told("new: where", x, x.where(0), 0, 0);
        c.due("new: next", x.next(0), NONE);
        c.told("new: marks", x, x.marks(0), 1, 0);
        c.due("new: wheels", x.wheels(1), 1);
    }

    private static void row() {
        BumpMap x = new BumpMap();
        c.due("row 40", x.row(5, 40), 40);
        c.due("row 0", x.row(0, 0), 0);
        c.due("row 41", x.row(0, 41), BAD);
        c.due("row -1, 3", x.row(-1, 3), BAD);
        c.due("row 6, 3", x.row(6, 3), BAD);
        c.due("row 6, -1: BAD comes first", x.row(6, -1), BAD);
        c.due("row: no finding by BAD", x.finding(), 0);
        c.finds("row 0, -1", x, x.row(0, -1), SIZE);
        c.finds("row 0, least", x, x.row(0, LEAST), SIZE);
        c.due("row: findings", x.findings(SIZE), 2);
        Check.fill(x, 1, 4, 5);
        c.due("row anew", x.row(1, 3), 3);
        c.rowIs("row anew", x, 1, 0, 0, 0);
        c.due("rows there", x.count(6), 3);
    }

    private static void layAndAt() {
        BumpMap x = new BumpMap();
        c.finds("lay missing", x, x.lay(0, 0, 1), NOTHING);
        c.finds("at missing", x, x.at(0, 0), NOTHING);
        x.row(0, 2);
        c.told("lay", x, x.lay(0, 1, MOST), 1, 0);
        c.told("lay again", x, x.lay(0, 1, LEAST), 1, MOST);
        c.told("at", x, x.at(0, 1), 1, LEAST);
        c.due("lay BAD", x.lay(6, 0, 0), BAD);
        c.due("lay BAD", x.lay(-1, 0, 0), BAD);
        c.due("at BAD", x.at(6, 0), BAD);
        c.due("at BAD", x.at(-1, 0), BAD);
        c.finds("lay -1", x, x.lay(0, -1, 0), BEYOND);
        c.finds("lay 2", x, x.lay(0, 2, 0), BEYOND);
        c.finds("at -1", x, x.at(0, -1), BEYOND);
        c.finds("at 2", x, x.at(0, 2), BEYOND);
        c.due("asked stays when refused", x.asked(), LEAST);
    }

    private static void tear() {
        BumpMap x = new BumpMap();
        c.due("tear BAD", x.tear(6), BAD);
        c.due("tear BAD", x.tear(-1), BAD);
        c.finds("tear missing", x, x.tear(2), NOTHING);
        x.row(2, 1);
        c.due("tear", x.tear(2), 1);
        c.finds("torn", x, x.at(2, 0), NOTHING);
        c.due("none is there", x.count(6), 0);
        c.finds("tear torn", x, x.tear(2), NOTHING);
        c.due("a torn row leaves nothing in the digest", x.digest(), new BumpMap().digest());
    }

    private static void copy() {
        BumpMap x = new BumpMap();
        Check.fill(x, 0, 1, 2, 3, 4, 5);
        Check.fill(x, 1, 7, 8, 9);
        c.due("copy", x.copy(0, 3, 1, 1, 2), 1);
        c.rowIs("copied", x, 1, 7, 4, 5);
        c.due("copy on itself, ahead", x.copy(0, 0, 0, 1, 4), 1);
        c.rowIs("copied on itself", x, 0, 1, 1, 2, 3, 4);
        c.due("copy on itself, back", x.copy(0, 2, 0, 0, 3), 1);
        c.rowIs("copied back", x, 0, 2, 3, 4, 3, 4);
        c.due("copy none at the sizes", x.copy(0, 5, 1, 3, 0), 1);
        c.finds("copy none, i above", x, x.copy(0, 6, 1, 0, 0), BEYOND);
        c.finds("copy none, j above", x, x.copy(0, 0, 1, 4, 0), BEYOND);
        c.finds("copy none, i below", x, x.copy(0, -1, 1, 0, 0), BEYOND);
        c.finds("copy none, j below", x, x.copy(0, 0, 1, -1, 0), BEYOND);
        c.finds("copy too many from", x, x.copy(1, 1, 0, 0, 3), BEYOND);
        c.finds("copy too many to", x, x.copy(0, 0, 1, 1, 3), BEYOND);
        c.finds("copy that wraps", x, x.copy(0, MOST, 1, 0, 1), BEYOND);
        c.finds("copy that wraps", x, x.copy(0, 1, 1, 1, MOST), BEYOND);
        c.due("copy BAD", x.copy(6, 0, 0, 0, -1), BAD);
        c.due("copy BAD", x.copy(0, 0, -1, 0, -1), BAD);
        c.finds("copy SIZE ahead of NOTHING", x, x.copy(2, 0, 0, 0, -1), SIZE);
        c.finds("copy NOTHING ahead of BEYOND", x, x.copy(2, -1, 0, 0, 1), NOTHING);
        c.finds("copy NOTHING, too", x, x.copy(0, -1, 2, 0, 1), NOTHING);
    }

    private static void mean() {
        BumpMap x = new BumpMap();
        Check.fill(x, 0, 1, 2, 5);
        c.told("mean", x, x.mean(0), 1, 2);
        Check.fill(x, 0, -1, -2);
        c.told("mean is cut", x, x.mean(0), 1, -1);
        Check.fill(x, 0, MOST, MOST, MOST);
        c.told("mean of many", x, x.mean(0), 1, MOST);
        Check.fill(x, 0, LEAST, LEAST);
        c.told("mean of few", x, x.mean(0), 1, LEAST);
        x.row(1, 0);
        c.finds("mean of none", x, x.mean(1), NOUGHT);
        c.finds("mean of a missing one", x, x.mean(2), NOTHING);
        c.due("mean BAD", x.mean(6), BAD);
        c.due("mean BAD", x.mean(-1), BAD);
        c.due("asked stays", x.asked(), LEAST);
    }

    private static void textAndPut() {
        BumpMap x = new BumpMap();
        c.due("text 80", x.text(3, 80), 80);
        c.due("text 0", x.text(0, 0), 0);
        c.due("text 81", x.text(0, 81), BAD);
        c.due("text BAD", x.text(4, -1), BAD);
        c.due("text BAD", x.text(-1, 1), BAD);
        c.finds("text -1", x, x.text(0, -1), SIZE);
        c.finds("put missing", x, x.put(1, 0, 0), NOTHING);
        c.finds("put beyond", x, x.put(0, 0, 0), BEYOND);
        c.finds("put -1", x, x.put(3, -1, 0), BEYOND);
        c.finds("put 80", x, x.put(3, 80, 0), BEYOND);
        c.due("put BAD", x.put(4, 0, 0), BAD);
        c.due("put BAD", x.put(-1, 0, 0), BAD);
        c.due("put over a blank", x.put(3, 79, 128), 1032);
        c.due("put is cut", x.put(3, 79, 127), 872);
        c.due("put", x.put(3, 79, -129), 1127);
        c.due("put is cut, too", x.put(3, 79, 256 + 110), 1127);
        c.due("put", x.put(3, 79, 0), 1110);
        c.due("text anew", x.text(3, 80), 80);
        c.due("blank again", x.put(3, 79, 1), 1032);
        c.due("texts there", x.count(7), 2);
        c.due("put tells nothing by asked", x.asked(), 0);
    }

    private static int faultOf(String s) {
        BumpMap x = new BumpMap();
        Check.write(x, 1, s);
        return x.fault(1);
    }

    private static void faultsOfTheHead() {
        BumpMap x = new BumpMap();
        c.due("fault BAD", x.fault(4), BAD);
        c.due("fault BAD", x.fault(-1), BAD);
        c.finds("fault NOTHING", x, x.fault(0), NOTHING);
        c.due("empty", faultOf(""), 0);
        c.due("blanks alone", faultOf("   "), 3);
        c.due("n alone", faultOf("n"), 1);
        c.due("n, blank", faultOf("n "), 1);
        c.due("n, then a figure", faultOf("n 3"), 1);
        c.due("n0", faultOf("n0"), 1);
        c.due("n8", faultOf("  n8"), 3);
        c.due("n1", faultOf("n1"), NONE);
        c.due("n7 among blanks", faultOf("  n7  "), NONE);
        c.due("n12", faultOf("n12"), 2);
        c.due("no n", faultOf(" r001"), 1);
        c.due("n twice", faultOf("n2 n2"), 3);
        c.due("N", faultOf("N2"), 0);
        c.due("a byte below 0", faultOf((char) (110 + 128) + "2"), 0);
    }

    private static void faultsOfRoads() {
        c.due("all letters", faultOf("n7 r000 p121 s232 f343 t454 v569"), NONE);
        c.due("no blanks between", faultOf("n2r010p101"), NONE);
        c.due("no such letter", faultOf("n2 r010 x010"), 8);
        c.due("one end beyond", faultOf("n2 r210"), 4);
        c.due("other end beyond", faultOf("n2 r020"), 5);
        c.due("ends of one place", faultOf("n1 r009"), NONE);
        c.due("a jolt that is none", faultOf("n2 r01r"), 6);
        c.due("a blank within", faultOf("n2 r 010"), 4);
        c.due("a blank within", faultOf("n2 r0 10"), 5);
        c.due("a blank within", faultOf("n2 r01 0"), 6);
        c.due("ends early at its letter", faultOf("n2 r"), 4);
        c.due("ends early", faultOf("n2 r0"), 5);
        c.due("ends early", faultOf("n2 r01"), 6);
        c.due("a figure too many", faultOf("n2 r0100"), 7);
        String ten = "n2 " + "r010".repeat(10);
        c.due("ten", faultOf(ten), NONE);
        c.due("ten and blanks", faultOf(ten + "  "), NONE);
        c.due("an eleventh", faultOf(ten + "  r010"), 45);
        c.due("an eleventh, its letter alone", faultOf(ten + "r"), 43);
        c.due("no eleventh either", faultOf(ten + " 9"), 44);
    }

    private static void land() {
        BumpMap x = new BumpMap();
        c.due("land BAD", x.land(4), BAD);
        c.due("land BAD", x.land(-1), BAD);
        c.finds("land NOTHING", x, x.land(0), NOTHING);
        Check.write(x, 0, "n3 r012 r123");
        Check.write(x, 1, "n3 r0");
        Check.write(x, 2, "n1");
        c.due("land", x.land(0), 2);
        c.due("places", x.count(0), 3);
        x.wheels(2);
        x.begin(1);
        x.go(1);
        x.keep(0);
        x.keep(1);
        x.keep(2);
        long before = x.digest();
        c.due("land with a fault", x.land(1), STATE);
        c.due("fault without a land", x.fault(2), NONE);
        c.due("they change nothing", x.digest(), before);
        x.put(0, 4, 'x');
        c.due("a land stays when its text changes", x.count(1), 2);
        x.put(0, 4, '0');
        c.due("land anew", x.land(0), 2);
        c.told("the drive begins at 0", x, x.here(), 0, 0);
        c.due("none is kept", x.count(5), 0);
        c.finds("none to go on", x, x.on(1), NOTHING);
        c.due("wheels stay", x.wheels(1), 2);
        c.due("a land without roads", x.land(2), 0);
        c.due("its places", x.count(0), 1);
        c.due("its roads", x.count(1), 0);
        c.due("no road", x.road(0, 0), BAD);
    }

    private static void road() {
        BumpMap x = Check.landed("n6 r013 s124 p237 f340 t452 v508");
        int[][] want = {{0, 0, 1, 3, 3}, {2, 1, 2, 4, 8}, {1, 2, 3, 7, 0}, {3, 3, 4, 0, 9}, {4, 4, 5, 2, 4},
            {5, 5, 0, 8, 1}};
        for (int i = 0; i < want.length; i++) {
            for (int what = 0; what < 5; what++) {
                c.told("road " + i + ", " + what, x, x.road(i, what), 1, want[i][what]);
            }
        }
        c.due("road BAD", x.road(-1, 0), BAD);
        c.due("road BAD", x.road(6, 0), BAD);
        c.due("road BAD", x.road(0, -1), BAD);
        c.due("road BAD", x.road(0, 5), BAD);
        c.due("asked stays", x.asked(), 1);
    }

    private static void feelsByWheels() {
        BumpMap x = Check.landed("n1 r009 s004 s005 t009 p009 f001 v009 r001");
        int[][] want = {{9, 8, 9, 9, 0, 9, 1, 1}, {4, 4, 4, 4, 0, 9, 1, 0}, {3, 2, 3, 3, 0, 9, 1, 0}};
        for (int w = 1; w <= 3; w++) {
            x.wheels(w);
            for (int i = 0; i < 8; i++) {
                c.told("feel of " + i + " by " + w, x, x.road(i, 4), 1, want[w - 1][i]);
            }
        }
    }

    private static void mark() {
        BumpMap x = Check.landed("n6 r013 s124 p237 f340 t452 v508 r142 s303 r556 v119");
        c.due("paved", x.mark(2, 1), 7);
        c.due("an avenue as paved", x.mark(5, 1), 8);
        c.due("stony", x.mark(1, 2), 0);
        c.due("stony, as another one", x.mark(7, 2), 1);
        c.due("steps as stony", x.mark(4, 2), 0);
        c.due("ford", x.mark(3, 3), 5);
        c.due("steps", x.mark(4, 4), 5);
        c.due("avenues", x.mark(5, 5), 2);
        x.wheels(3);
        c.due("paved by wheels", x.mark(2, 1), 2);
        c.due("an avenue by wheels", x.mark(5, 1), 2);
        c.due("stony by wheels", x.mark(1, 2), 2);
        c.due("mark tells nothing by asked", x.asked(), 0);
        c.finds("a road as paved", x, x.mark(0, 1), UNLIKE);
        c.finds("paved as an avenue", x, x.mark(2, 5), UNLIKE);
        c.finds("stony as steps", x, x.mark(1, 4), UNLIKE);
        c.finds("a ford as stony", x, x.mark(3, 2), UNLIKE);
        c.finds("steps as a ford", x, x.mark(4, 3), UNLIKE);
        c.due("mark BAD", x.mark(0, 0), BAD);
        c.due("mark BAD", x.mark(0, 6), BAD);
        c.due("mark BAD", x.mark(10, 1), BAD);
        c.due("mark BAD", x.mark(-1, 1), BAD);
        BumpMap y = Check.landed("n3 f000 r000 t120 r010");
        c.due("a ford with one end", y.mark(0, 3), 3);
        BumpMap z = Check.landed("n4 f010 r010 t210 r231 r001");
        c.due("a road between its ends counts once, steps to it, too", z.mark(0, 3), 4);
    }

    private static void wheels() {
        BumpMap x = new BumpMap();
        c.due("wheels 3", x.wheels(3), 1);
        c.due("wheels 0", x.wheels(0), BAD);
        c.due("wheels 4", x.wheels(4), BAD);
        c.due("wheels -1", x.wheels(-1), BAD);
        c.due("wheels 2", x.wheels(2), 3);
        c.due("wheels 1", x.wheels(1), 2);
    }

    private static void from() {
        BumpMap x = Check.landed("n4 r011 t120 r111 f013");
        c.told("from 0", x, x.from(0), 9, 2);
        c.told("from 1", x, x.from(1), 15, 7);
        c.told("steps lead one way", x, x.from(2), 0, 0);
        c.told("from a lonely one", x, x.from(3), 0, 0);
        BumpMap y = Check.landed("n3 r021 r011");
        c.told("each leads elsewhere", y, y.from(0), 3, 6);
        x.from(1);
        c.due("from BAD", x.from(4), BAD);
        c.due("from BAD", x.from(-1), BAD);
        c.due("asked stays", x.asked(), 7);
    }
}
