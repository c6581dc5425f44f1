/** Promises 16 to 24 and 41: drives, kept ones, drives by lots. */
public final class DrivesTest {
    private static final int NOTHING = 1, BEYOND = 2, UNLIKE = 3;
    private static final int BAD = BumpMap.BAD, STATE = BumpMap.STATE, FULL = BumpMap.FULL;
    private static final String LAND = "n3 r012 t121 r225";
    private static final Check c = new Check("DrivesTest");

    public static void main(String[] args) {
        begin();
        go();
        goUntilFull();
        here();
        felt();
        undo();
        tell();
        keepAndOn();
        feels();
        lots();
        lotsThatEnd();
        c.end();
    }

    private static void begin() {
        BumpMap x = Check.landed(LAND);
        c.due("begin 0", x.begin(0), 1);
        c.due("begin 1", x.begin(1), 2);
        c.due("begin 2: no steps back, a round once", x.begin(2), 1);
        c.told("begun", x, x.here(), 2, 0);
        x.go(2);
        c.due("begin BAD", x.begin(3), BAD);
        c.due("begin BAD", x.begin(-1), BAD);
        c.told("BAD changes nothing", x, x.here(), 2, 1);
        x.begin(0);
        c.told("begun anew", x, x.here(), 0, 0);
    }

    private static void go() {
        BumpMap x = Check.landed(LAND);
        c.due("not from here", x.go(1), STATE);
        c.told("go 0", x, x.go(0), 2, 1);
        c.told("go back", x, x.go(0), 2, 0);
        x.go(0);
        c.told("go down steps", x, x.go(1), 2, 2);
        c.due("not up steps", x.go(1), STATE);
        c.told("go round", x, x.go(2), 5, 2);
        c.due("go BAD", x.go(3), BAD);
        c.due("go BAD", x.go(-1), BAD);
        c.due("asked stays", x.asked(), 2);
        c.told("here", x, x.here(), 2, 5);
    }

    private static void goUntilFull() {
        BumpMap x = Check.landed("n2 r005 r112");
        for (int k = 0; k < 40; k++) c.told("go " + k, x, x.go(0), 5, 0);
        c.due("go when 40 were", x.go(0), FULL);
        c.due("STATE ahead of FULL", x.go(1), STATE);
        c.due("BAD ahead of FULL", x.go(2), BAD);
        c.told("forty", x, x.here(), 0, 40);
        c.due("tell forty", x.tell(0), 40);
        c.due("undo one", x.undo(39), 1);
        c.due("go again", x.go(0), 5);
        c.due("full again", x.go(0), FULL);
    }

    private static void here() {
        BumpMap x = new BumpMap();
        c.due("here without places", x.here(), STATE);
        Check.write(x, 0, LAND);
        x.land(0);
        c.told("here", x, x.here(), 0, 0);
        x.go(0);
        c.told("here, gone", x, x.here(), 1, 1);
    }

    private static void felt() {
        BumpMap x = Check.landed(LAND);
        c.due("felt -1", x.felt(-1), BAD);
        c.finds("felt 0", x, x.felt(0), BEYOND);
        x.go(0);
        x.go(1);
        x.wheels(2);
        x.go(2);
        c.told("felt 0 as it was", x, x.felt(0), 2, 0);
        c.told("felt 1", x, x.felt(1), 2, 1);
        c.told("felt 2 by two wheels", x, x.felt(2), 2, 2);
        c.finds("felt 3", x, x.felt(3), BEYOND);
        x.pave(0);
        c.told("felt as it was ahead of paving", x, x.felt(0), 2, 0);
    }

    private static void undo() {
        BumpMap x = Check.landed(LAND);
        x.begin(1);
        x.go(0);
        x.go(0);
        x.go(1);
        x.go(2);
        c.due("undo none", x.undo(4), 0);
        c.due("undo BAD", x.undo(5), BAD);
        c.due("undo BAD", x.undo(-1), BAD);
        c.due("undo two", x.undo(2), 2);
        c.told("back", x, x.here(), 1, 2);
        c.finds("undone", x, x.felt(2), BEYOND);
        c.due("undo to the first", x.undo(1), 1);
        c.told("back at 0", x, x.here(), 0, 1);
        c.due("undo all", x.undo(0), 1);
        c.told("back where it began", x, x.here(), 1, 0);
    }

    private static void tell() {
        BumpMap x = Check.landed(LAND);
        Check.fill(x, 3, 7, 7, 7, 7);
        x.go(0);
        x.go(1);
        x.go(2);
        c.due("tell", x.tell(3), 3);
        c.rowIs("told", x, 3, 2, 2, 5);
        c.due("tell BAD", x.tell(6), BAD);
        c.due("tell BAD", x.tell(-1), BAD);
        x.begin(0);
        c.due("tell none", x.tell(4), 0);
        c.rowIs("told none", x, 4);
    }

    private static void keepAndOn() {
        BumpMap x = new BumpMap();
        c.due("keep BAD ahead of STATE", x.keep(3), BAD);
        c.due("keep BAD", x.keep(-1), BAD);
        c.due("keep without places", x.keep(0), STATE);
        c.finds("on without any", x, x.on(0), NOTHING);
        Check.write(x, 0, LAND);
        x.land(0);
        x.begin(1);
        x.go(0);
        x.go(0);
        c.due("keep", x.keep(2), 2);
        x.go(1);
        c.due("keep another one", x.keep(0), 3);
        c.due("kept ones", x.count(5), 2);
        x.begin(2);
        x.pave(0);
        c.due("on", x.on(2), 2);
        c.told("as it was", x, x.here(), 1, 2);
        c.told("as it felt", x, x.felt(1), 2, 0);
        c.told("it goes on", x, x.go(0), 0, 0);
        c.due("on again", x.on(2), 2);
        c.told("what is kept stays", x, x.here(), 1, 2);
        c.due("undo over where it began", x.undo(0), 2);
        c.told("where it began", x, x.here(), 1, 0);
        c.due("on the other one", x.on(0), 3);
        c.told("the other one", x, x.here(), 2, 3);
        c.due("keep over", x.keep(2), 3);
        c.due("kept ones still", x.count(5), 2);
        c.finds("on a missing one", x, x.on(1), NOTHING);
        c.due("on BAD", x.on(3), BAD);
        c.due("on BAD", x.on(-1), BAD);
    }

    private static void feels() {
        BumpMap x = Check.landed(LAND);
        Check.fill(x, 0, 0, 1, 2, 0, 2);
        c.told("feels until one can't be", x, x.feels(0, 0, 1), 3, 2);
        c.rowIs("felt so", x, 1, 2, 2, 5);
        c.told("the drive stays", x, x.here(), 0, 0);
        c.told("feels none", x, x.feels(0, 2, 1), 0, 2);
        c.rowIs("felt none", x, 1);
        c.told("feels to itself", x, x.feels(0, 0, 0), 3, 2);
        c.rowIs("felt to itself", x, 0, 2, 2, 5);
        c.finds("no such road behind", x, x.feels(0, 0, 1), UNLIKE);
        Check.fill(x, 0, 1, -1);
        c.finds("no such road, though it never gets there", x, x.feels(0, 0, 1), UNLIKE);
        c.rowIs("refused: the row stays", x, 1);
        Check.fill(x, 0, 3);
        c.finds("the first number that is none", x, x.feels(0, 0, 1), UNLIKE);
        c.finds("feels NOTHING", x, x.feels(5, 0, 1), NOTHING);
        c.due("feels BAD", x.feels(6, 0, 1), BAD);
        c.due("feels BAD", x.feels(0, 3, 1), BAD);
        c.due("feels BAD", x.feels(0, 0, 6), BAD);
        c.due("feels BAD ahead of NOTHING", x.feels(5, -1, 1), BAD);
        x.row(2, 40);
        x.begin(0);
        c.told("forty from a place", x, x.feels(2, 0, 2), 40, 0);
        c.due("forty felt", x.at(2, 39), 1);
        c.due("the last of them", x.asked(), 2);
    }

    private static void lots() {
        BumpMap x = Check.landed("n1 r001 r002 r003");
        c.due("lots", x.lots(3, 1), 3);
        c.told("by 48271", x, x.felt(0), 2, 1);
        c.told("by 182605794", x, x.felt(1), 1, 0);
        c.told("by 1291394886", x, x.felt(2), 1, 0);
        c.due("lots to forty", x.lots(40, 2147483646), 37);
        c.told("by 2147435376", x, x.felt(3), 1, 0);
        c.due("lots when forty were", x.lots(1, 1), 0);
        c.due("lots BAD", x.lots(0, 1), BAD);
        c.due("lots BAD", x.lots(41, 1), BAD);
        c.due("lots BAD", x.lots(1, 0), BAD);
        c.due("lots BAD", x.lots(1, -5), BAD);
        c.due("lots BAD", x.lots(1, 2147483647), BAD);
        BumpMap y = new BumpMap();
        c.due("BAD ahead of STATE", y.lots(0, 1), BAD);
        c.due("STATE", y.lots(1, 1), STATE);
    }

    private static void lotsThatEnd() {
        BumpMap x = Check.landed("n3 t010 r222 t120");
        c.due("until none can be: the round at the end goes on", x.lots(5, 9), 5);
        c.told("there", x, x.here(), 2, 5);
        BumpMap y = Check.landed("n2 t010");
        c.due("until none can be", y.lots(7, 3), 1);
        c.due("none can be", y.lots(7, 3), 0);
        c.told("at its end", y, y.here(), 1, 1);
    }
}
