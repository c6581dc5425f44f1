/** Promises 16 to 24 and 41: DRIVES road by road, kept ones, ROADS in a ROW, LOTS. */
final class DriveEdges {
    private static final int BAD = BumpMap.BAD, FULL = BumpMap.FULL, STATE = BumpMap.STATE;
    private static final int NOTHING = 1, BEYOND = 2, UNLIKE = 3;
    private static final int LEAST = Integer.MIN_VALUE, MOST = Integer.MAX_VALUE;
    private static final String BEGIN = "Promise 16", GO = "Promise 17", HERE = "Promise 18", FELT = "Promise 19",
        UNDO = "Promise 20", TELL = "Promise 21", KEEP = "Promise 22", ON = "Promise 23", FEELS = "Promise 24",
        LOTS = "Promise 41";
    private static final String BEGUN = "A DRIVE begins at a PLACE: how many ROADS can be driven from there.";
    private static final String DRIVEN = "A ROAD is driven: what it FEELS like; the PLACE to which it leads by asked().";
    private static final String GO_REFUSED = "BAD; STATE: it can't be from here; FULL: 40 were.";
    private static final String WHERE = "Where the CART is; how many ROADS were driven by asked().";
    private static final String WHAT = "What ROAD number k of the DRIVE felt like then; which one it was by asked().";
    private static final String FELT_REFUSED = "BAD: below 0; BEYOND.";
    private static final String UNDONE = "ROADS of the DRIVE from number k on (0 to how many there are: none then) "
        + "are undone: how many.";
    private static final String TOLD = "What was felt on the DRIVE comes to a ROW (anew): how many.";
    private static final String KEPT = "The DRIVE (where it began, ROADS, what was felt) is kept in a place (0 .. 2): "
        + "how many ROADS.";
    private static final String KEEP_REFUSED = "BAD; STATE: no PLACES.";
    private static final String AGAIN = "The DRIVE is as it was kept: how many ROADS.";
    private static final String ROADS_IN_A_ROW = "ROADS in a ROW driven from a PLACE, one behind the other, "
        + "until one can't be: how many went; the PLACE then by asked(); what they feel like comes to another ROW "
        + "(anew; perhaps the same).";
    private static final String FEELS_REFUSED = "BAD; NOTHING; UNLIKE: a number that is none of ROADS.";
    private static final String BY_LOTS = "n (1 .. 40) ROADS by LOTS of a seed from here: a number each: of ROADS that "
        + "can be driven the one at it modulo how many there are (from 0, by their numbers); until none can be, "
        + "or 40 were driven in all: how many went.";
    private static final String LOTS_REFUSED = "BAD; STATE: no PLACES.";
    /** A round that feels like 5 and steps that feel like 2, down from it. */
    private static final String ROUND = "n2 r005 t011";

    private static BumpMap driven(String land, int times) {
        BumpMap x = Check.landed(land);
        for (int k = 0; k < times; k++) x.go(0);
        return x;
    }

    // ---- promise 16

    static void beginWithNoneAndAll(Sentences s) {
        s.says(BEGIN, BEGUN);
        BumpMap x = Check.landed("n7" + "t600".repeat(9) + "r660");
        s.due(x.begin(0), 0);
        s.told(x, x.here(), 0, 0);
        s.due(x.begin(6), 10);
        s.told(x, x.here(), 6, 0);
        s.due(x.begin(3), 0);
    }

    static void beginAnewEndsTheDrive(Sentences s) {
        s.says(BEGIN, BEGUN);
        BumpMap x = driven(ROUND, 40);
        s.due(x.begin(0), 2);
        s.told(x, x.here(), 0, 0);
        s.found(x, BEYOND, () -> x.felt(0));
        s.due(x.go(0), 5);
        s.due(x.begin(1), 0);
        s.due(x.undo(0), 0);
        s.told(x, x.here(), 1, 0);
    }

    static void beginBad(Sentences s) {
        s.says(BEGIN, "BAD.");
        BumpMap x = driven(ROUND, 1);
        for (int p : new int[] {-1, 2, 7, LEAST, MOST}) s.refused(x, BAD, () -> x.begin(p));
        BumpMap y = new BumpMap();
        s.refused(y, BAD, () -> y.begin(0));
    }

    // ---- promise 17

    static void goFortyTimes(Sentences s) {
        s.says(GO, DRIVEN);
        BumpMap x = Check.landed(ROUND);
        for (int k = 0; k < 39; k++) s.told(x, x.go(0), 5, 0);
        s.told(x, x.go(1), 2, 1);
        s.told(x, x.here(), 1, 40);
    }

    static void goFeelsByTheWheelsOfNow(Sentences s) {
        s.says(GO, DRIVEN);
        BumpMap x = Check.landed("n2 r017");
        s.told(x, x.go(0), 7, 1);
        x.wheels(2);
        s.told(x, x.go(0), 3, 0);
        x.wheels(3);
        s.told(x, x.go(0), 2, 1);
        x.pave(0);
        s.told(x, x.go(0), 0, 0);
    }

    static void goBad(Sentences s) {
        s.says(GO, GO_REFUSED);
        BumpMap x = Check.landed(ROUND);
        for (int i : new int[] {-1, 2, 10, LEAST, MOST}) s.refused(x, BAD, () -> x.go(i));
        BumpMap y = new BumpMap();
        s.refused(y, BAD, () -> y.go(0));
        BumpMap z = Check.landed("n2");
        s.refused(z, BAD, () -> z.go(0));
    }

    static void goState(Sentences s) {
        s.says(GO, GO_REFUSED);
        BumpMap x = Check.landed("n3 t010 r120 t110");
        s.refused(x, STATE, () -> x.go(1));
        s.refused(x, STATE, () -> x.go(2));
        x.go(0);
        s.refused(x, STATE, () -> x.go(0));
        x.go(1);
        s.refused(x, STATE, () -> x.go(2));
        s.told(x, x.here(), 2, 2);
    }

    static void goFull(Sentences s) {
        s.says(GO, GO_REFUSED);
        BumpMap x = driven(ROUND, 39);
        s.due(x.go(0), 5);
        s.refused(x, FULL, () -> x.go(0));
        s.refused(x, FULL, () -> x.go(1));
        s.due(x.undo(39), 1);
        s.due(x.go(1), 2);
        s.told(x, x.here(), 1, 40);
    }

    static void goFullLast(Sentences s) {
        s.says(GO, "(FULL last.)");
        BumpMap x = driven("n2 r005 t101", 40);
        s.refused(x, STATE, () -> x.go(1));
        s.refused(x, BAD, () -> x.go(2));
        s.refused(x, FULL, () -> x.go(0));
    }

    // ---- promise 18

    static void hereAfterNoneAndForty(Sentences s) {
        s.says(HERE, WHERE);
        BumpMap x = Check.landed("n2 r012");
        s.told(x, x.here(), 0, 0);
        for (int k = 0; k < 39; k++) x.go(0);
        s.told(x, x.here(), 1, 39);
        x.go(0);
        s.told(x, x.here(), 0, 40);
        x.go(0);
        s.told(x, x.here(), 0, 40);
    }

    static void hereState(Sentences s) {
        s.says(HERE, "STATE: no PLACES.");
        BumpMap x = new BumpMap();
        s.refused(x, STATE, () -> x.here());
        Check.write(x, 0, "n1 r00");
        x.land(0);
        s.refused(x, STATE, () -> x.here());
        Check.write(x, 0, "n1");
        x.land(0);
        s.told(x, x.here(), 0, 0);
    }

    // ---- promise 19

    static void feltTheFirstAndTheLast(Sentences s) {
        s.says(FELT, WHAT);
        BumpMap x = driven(ROUND, 39);
        x.go(1);
        s.told(x, x.felt(39), 2, 1);
        s.told(x, x.felt(0), 5, 0);
        s.told(x, x.felt(38), 5, 0);
    }

    static void feltAsItWasThen(Sentences s) {
        s.says(FELT, WHAT);
        BumpMap x = driven("n2 r009", 1);
        x.wheels(3);
        x.go(0);
        x.pave(0);
        x.go(0);
        s.told(x, x.felt(0), 9, 0);
        s.told(x, x.felt(1), 3, 0);
        s.told(x, x.felt(2), 0, 0);
    }

    static void feltBad(Sentences s) {
        s.says(FELT, FELT_REFUSED);
        BumpMap x = driven(ROUND, 1);
        s.refused(x, BAD, () -> x.felt(-1));
        s.refused(x, BAD, () -> x.felt(LEAST));
        BumpMap y = new BumpMap();
        s.refused(y, BAD, () -> y.felt(-1));
    }

    static void feltBeyond(Sentences s) {
        s.says(FELT, FELT_REFUSED);
        BumpMap x = driven(ROUND, 2);
        for (int k : new int[] {2, 3, 40, MOST}) s.found(x, BEYOND, () -> x.felt(k));
        BumpMap full = driven(ROUND, 40);
        s.found(full, BEYOND, () -> full.felt(40));
        full.undo(39);
        s.found(full, BEYOND, () -> full.felt(39));
        BumpMap y = new BumpMap();
        s.found(y, BEYOND, () -> y.felt(0));
    }

    // ---- promise 20

    static void undoNone(Sentences s) {
        s.says(UNDO, UNDONE);
        BumpMap x = driven("n2 r012", 3);
        s.refused(x, 0, () -> x.undo(3));
        s.told(x, x.here(), 1, 3);
        BumpMap y = Check.landed("n2 r012");
        s.refused(y, 0, () -> y.undo(0));
        BumpMap z = new BumpMap();
        s.refused(z, 0, () -> z.undo(0));
    }

    static void undoOne(Sentences s) {
        s.says(UNDO, UNDONE);
        BumpMap x = driven("n2 r012", 40);
        s.due(x.undo(39), 1);
        s.told(x, x.here(), 1, 39);
        s.due(x.undo(38), 1);
        s.told(x, x.here(), 0, 38);
    }

    static void undoAll(Sentences s) {
        s.says(UNDO, UNDONE);
        BumpMap x = Check.landed("n4 t231 r312 r012");
        x.begin(2);
        x.go(0);
        x.go(1);
        x.go(2);
        s.told(x, x.here(), 0, 3);
        s.due(x.undo(0), 3);
        s.told(x, x.here(), 2, 0);
        s.due(x.go(0), 2);
        BumpMap full = driven(ROUND, 40);
        s.due(full.undo(0), 40);
        s.told(full, full.here(), 0, 0);
    }

    static void undoBad(Sentences s) {
        s.says(UNDO, "BAD.");
        BumpMap x = driven("n2 r012", 3);
        for (int k : new int[] {-1, 4, 40, LEAST, MOST}) s.refused(x, BAD, () -> x.undo(k));
        BumpMap y = new BumpMap();
        s.refused(y, BAD, () -> y.undo(1));
        BumpMap full = driven("n2 r012", 40);
        s.refused(full, BAD, () -> full.undo(41));
        s.refused(full, 0, () -> full.undo(40));
    }

    // ---- promise 21

    static void tellNone(Sentences s) {
        s.says(TELL, TOLD);
        BumpMap x = Check.landed(ROUND);
        Check.fill(x, 0, 7, 8);
        s.due(x.tell(0), 0);
        s.row(x, 0);
        s.due(x.tell(5), 0);
        s.row(x, 5);
        BumpMap y = new BumpMap();
        s.due(y.tell(3), 0);
        s.row(y, 3);
    }

    static void tellForty(Sentences s) {
        s.says(TELL, TOLD);
        BumpMap x = driven(ROUND, 39);
        x.go(1);
        s.due(x.tell(5), 40);
        s.told(x, x.at(5, 0), 1, 5);
        s.told(x, x.at(5, 39), 1, 2);
        s.found(x, BEYOND, () -> x.at(5, 40));
    }

    static void tellAnew(Sentences s) {
        s.says(TELL, TOLD);
        BumpMap x = driven(ROUND, 1);
        Check.fill(x, 0, 7, 8, 9);
        s.due(x.tell(0), 1);
        s.row(x, 0, 5);
        x.wheels(3);
        x.go(0);
        s.due(x.tell(0), 2);
        s.row(x, 0, 5, 1);
    }

    static void tellBad(Sentences s) {
        s.says(TELL, "BAD.");
        BumpMap x = driven(ROUND, 1);
        for (int r : new int[] {-1, 6, LEAST, MOST}) s.refused(x, BAD, () -> x.tell(r));
    }

    // ---- promise 22

    static void keepInThePlacesThereAre(Sentences s) {
        s.says(KEEP, KEPT);
        BumpMap x = driven(ROUND, 1);
        s.due(x.keep(0), 1);
        s.due(x.count(5), 1);
        s.due(x.keep(2), 1);
        s.due(x.keep(1), 1);
        s.due(x.count(5), 3);
        x.go(0);
        s.due(x.keep(1), 2);
        s.due(x.count(5), 3);
    }

    static void keepADriveOfNoneAndOfForty(Sentences s) {
        s.says(KEEP, KEPT);
        BumpMap x = driven(ROUND, 0);
        s.due(x.keep(0), 0);
        for (int k = 0; k < 40; k++) x.go(0);
        s.due(x.keep(1), 40);
        s.due(x.on(0), 0);
        s.told(x, x.here(), 0, 0);
        s.due(x.on(1), 40);
        s.told(x, x.felt(39), 5, 0);
        s.refused(x, FULL, () -> x.go(0));
    }

    static void keepWhereItBeganAndWhatWasFelt(Sentences s) {
        s.says(KEEP, KEPT);
        BumpMap x = Check.landed("n3 r128 r013");
        x.begin(2);
        x.go(0);
        x.go(1);
        s.due(x.keep(1), 2);
        x.begin(0);
        x.wheels(3);
        x.pave(0);
        x.go(1);
        s.due(x.on(1), 2);
        s.told(x, x.here(), 0, 2);
        s.told(x, x.felt(0), 8, 0);
        s.told(x, x.felt(1), 3, 1);
        s.due(x.undo(0), 2);
        s.told(x, x.here(), 2, 0);
    }

    static void keepBad(Sentences s) {
        s.says(KEEP, KEEP_REFUSED);
        BumpMap x = driven(ROUND, 1);
        for (int k : new int[] {-1, 3, LEAST, MOST}) s.refused(x, BAD, () -> x.keep(k));
        BumpMap y = new BumpMap();
        s.refused(y, BAD, () -> y.keep(3));
    }

    static void keepState(Sentences s) {
        s.says(KEEP, KEEP_REFUSED);
        BumpMap x = new BumpMap();
        for (int k = 0; k < 3; k++) {
            int place = k;
            s.refused(x, STATE, () -> x.keep(place));
        }
    }

    // ---- promise 23

    static void onAgainAndAgain(Sentences s) {
        s.says(ON, AGAIN);
        BumpMap x = driven(ROUND, 2);
        x.keep(0);
        x.go(1);
        s.due(x.on(0), 2);
        s.told(x, x.here(), 0, 2);
        x.undo(0);
        s.due(x.on(0), 2);
        s.told(x, x.here(), 0, 2);
        s.due(x.go(0), 5);
        s.due(x.count(5), 1);
        s.due(x.on(0), 2);
        s.found(x, BEYOND, () -> x.felt(2));
    }

    static void onBad(Sentences s) {
        s.says(ON, "BAD; NOTHING.");
        BumpMap x = driven(ROUND, 1);
        x.keep(0);
        for (int k : new int[] {-1, 3, LEAST, MOST}) s.refused(x, BAD, () -> x.on(k));
    }

    static void onNothing(Sentences s) {
        s.says(ON, "BAD; NOTHING.");
        BumpMap x = new BumpMap();
        for (int k = 0; k < 3; k++) {
            int place = k;
            s.found(x, NOTHING, () -> x.on(place));
        }
        BumpMap y = driven(ROUND, 1);
        y.keep(1);
        s.found(y, NOTHING, () -> y.on(0));
        s.found(y, NOTHING, () -> y.on(2));
        s.due(y.on(1), 1);
    }

    // ---- promise 24

    static void feelsNone(Sentences s) {
        s.says(FEELS, ROADS_IN_A_ROW);
        BumpMap x = Check.landed("n3 t011 r125");
        Check.fill(x, 0, 1, 0);
        Check.fill(x, 1, 7, 7);
        s.told(x, x.feels(0, 0, 1), 0, 0);
        s.row(x, 1);
        x.row(0, 0);
        s.told(x, x.feels(0, 2, 3), 0, 2);
        s.row(x, 3);
    }

    static void feelsUntilOneCantBe(Sentences s) {
        s.says(FEELS, ROADS_IN_A_ROW);
        BumpMap x = Check.landed("n3 t011 r125");
        Check.fill(x, 0, 0, 1, 1, 0, 1);
        s.told(x, x.feels(0, 0, 1), 3, 1);
        s.row(x, 1, 2, 5, 5);
        Check.fill(x, 0, 0, 1);
        s.told(x, x.feels(0, 0, 1), 2, 2);
        s.row(x, 1, 2, 5);
    }

    static void feelsAllForty(Sentences s) {
        s.says(FEELS, ROADS_IN_A_ROW);
        BumpMap x = Check.landed(ROUND);
        x.row(0, 40);
        x.lay(0, 39, 1);
        s.told(x, x.feels(0, 0, 5), 40, 1);
        s.told(x, x.at(5, 0), 1, 5);
        s.told(x, x.at(5, 39), 1, 2);
        s.told(x, x.feels(0, 1, 5), 0, 1);
        s.row(x, 5);
    }

    static void feelsIntoTheSameRow(Sentences s) {
        s.says(FEELS, ROADS_IN_A_ROW);
        BumpMap x = Check.landed("n3 t011 r125");
        Check.fill(x, 0, 0, 1, 1, 0);
        s.told(x, x.feels(0, 0, 0), 3, 1);
        s.row(x, 0, 2, 5, 5);
    }

    static void feelsLeavesTheDrive(Sentences s) {
        s.says(FEELS, "(The DRIVE stays.)");
        BumpMap x = Check.landed("n3 t011 r125");
        x.begin(1);
        x.go(1);
        Check.fill(x, 0, 0, 1, 1);
        s.told(x, x.feels(0, 0, 1), 3, 1);
        s.told(x, x.here(), 2, 1);
        s.told(x, x.felt(0), 5, 1);
        s.found(x, BEYOND, () -> x.felt(1));
        s.due(x.undo(0), 1);
        s.told(x, x.here(), 1, 0);
    }

    static void feelsWithAFullDrive(Sentences s) {
        s.says(FEELS, "(The DRIVE stays.)");
        BumpMap x = driven(ROUND, 40);
        x.row(0, 40);
        s.told(x, x.feels(0, 0, 1), 40, 0);
        s.told(x, x.here(), 0, 40);
    }

    static void feelsBad(Sentences s) {
        s.says(FEELS, FEELS_REFUSED);
        BumpMap x = Check.landed(ROUND);
        x.row(0, 1);
        for (int r : new int[] {-1, 6, LEAST, MOST}) {
            s.refused(x, BAD, () -> x.feels(r, 0, 1));
            s.refused(x, BAD, () -> x.feels(0, 0, r));
        }
        for (int p : new int[] {-1, 2, LEAST, MOST}) s.refused(x, BAD, () -> x.feels(0, p, 1));
        BumpMap y = new BumpMap();
        y.row(0, 0);
        s.refused(y, BAD, () -> y.feels(0, 0, 1));
    }

    static void feelsNothing(Sentences s) {
        s.says(FEELS, FEELS_REFUSED);
        BumpMap x = Check.landed(ROUND);
        Check.fill(x, 1, 8);
        s.found(x, NOTHING, () -> x.feels(0, 0, 1));
        s.found(x, NOTHING, () -> x.feels(0, 0, 0));
        s.row(x, 1, 8);
        s.missing(x, 0);
    }

    static void feelsUnlike(Sentences s) {
        s.says(FEELS, FEELS_REFUSED);
        BumpMap x = Check.landed(ROUND);
        Check.fill(x, 1, 8);
        for (int i : new int[] {-1, 2, 10, LEAST, MOST}) {
            Check.fill(x, 0, i);
            s.found(x, UNLIKE, () -> x.feels(0, 0, 1));
        }
        Check.fill(x, 0, 0, 0, 2);
        s.found(x, UNLIKE, () -> x.feels(0, 0, 1));
        s.row(x, 1, 8);
        Check.fill(x, 0, 0, 1);
        s.told(x, x.feels(0, 0, 1), 2, 1);
    }

    static void feelsUnlikeWithoutRoads(Sentences s) {
        s.says(FEELS, FEELS_REFUSED);
        BumpMap x = Check.landed("n1");
        x.row(0, 1);
        s.found(x, UNLIKE, () -> x.feels(0, 0, 1));
        x.row(0, 0);
        s.told(x, x.feels(0, 0, 1), 0, 0);
    }

    // ---- promise 41

    static void lotsOneAndForty(Sentences s) {
        s.says(LOTS, BY_LOTS);
        BumpMap x = Check.landed("n1 r001");
        s.due(x.lots(1, 1), 1);
        s.told(x, x.here(), 0, 1);
        x.begin(0);
        s.due(x.lots(40, 2147483646), 40);
        s.told(x, x.here(), 0, 40);
    }

    static void lotsOfRoadsThatCanBeDrivenByTheirNumbers(Sentences s) {
        s.says(LOTS, BY_LOTS);
        // From 0: 0, 2, 4 (48271 modulo 3 is 1: ROAD 2); from 1: 1, 2, 3 (182605794 modulo 3 is 0: ROAD 1).
        BumpMap x = Check.landed("n3 t001 t112 r013 t114 t005");
        s.due(x.lots(2, 1), 2);
        s.told(x, x.felt(0), 3, 2);
        s.told(x, x.felt(1), 4, 1);
        s.told(x, x.here(), 1, 2);
    }

    static void lotsUntilNoneCanBe(Sentences s) {
        s.says(LOTS, BY_LOTS);
        BumpMap x = Check.landed("n3 t010 t120");
        s.due(x.lots(40, 5), 2);
        s.told(x, x.here(), 2, 2);
        s.refused(x, 0, () -> x.lots(1, 5));
        BumpMap y = Check.landed("n1");
        s.refused(y, 0, () -> y.lots(40, 1));
    }

    static void lotsUntilFortyWereDrivenInAll(Sentences s) {
        s.says(LOTS, BY_LOTS);
        BumpMap x = driven("n1 r001 r002", 39);
        s.due(x.lots(40, 7), 1);
        s.refused(x, 0, () -> x.lots(1, 7));
        s.refused(x, FULL, () -> x.go(0));
        BumpMap y = driven("n1 r001", 10);
        s.due(y.lots(30, 7), 30);
        s.refused(y, 0, () -> y.lots(40, 7));
    }

    static void lotsBad(Sentences s) {
        s.says(LOTS, LOTS_REFUSED);
        BumpMap x = Check.landed("n1 r001");
        for (int n : new int[] {0, -1, 41, LEAST, MOST}) s.refused(x, BAD, () -> x.lots(n, 1));
        for (int seed : new int[] {0, -1, LEAST, MOST}) s.refused(x, BAD, () -> x.lots(1, seed));
        s.due(x.lots(40, 2147483646), 40);
        s.refused(x, BAD, () -> x.lots(0, 1));
    }

    static void lotsState(Sentences s) {
        s.says(LOTS, LOTS_REFUSED);
        BumpMap x = new BumpMap();
        s.refused(x, STATE, () -> x.lots(1, 1));
        s.refused(x, STATE, () -> x.lots(40, 2147483646));
    }

    static void lotsAreTheDrives(Sentences s) {
        s.says(LOTS, "(These are the DRIVE's.)");
        BumpMap x = driven(ROUND.substring(0, 7), 1);
        s.due(x.lots(4, 3), 4);
        s.told(x, x.here(), 0, 5);
        s.told(x, x.felt(4), 5, 0);
        s.due(x.tell(0), 5);
        s.due(x.keep(0), 5);
        s.due(x.undo(2), 3);
        s.told(x, x.here(), 0, 2);
    }
}
