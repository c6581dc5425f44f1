/** Promises 25 to 30 and 34: from FELT ROWS to DRIVES, PLACES, slips, the next number; marks of a map. */
final class FeltEdges {
    private static final int BAD = BumpMap.BAD, NONE = BumpMap.NONE;
    private static final int NOTHING = 1, UNLIKE = 3, SIZE = 5;
    private static final int LEAST = Integer.MIN_VALUE, MOST = Integer.MAX_VALUE;
    private static final String DRIVES = "Promise 25", ENDS = "Promise 26", FIRST = "Promise 27", WHERE = "Promise 28",
        SLIPS = "Promise 29", NEXT = "Promise 30", MARKS = "Promise 34";
    private static final String HOW_MANY = "In how many DRIVES from a PLACE a FELT ROW can be driven, "
        + "told by upper() (lower() is 1): 1.";
    private static final String DRIVES_REFUSED = "BAD; NOTHING; SIZE: more than 16; UNLIKE: a number not 0 .. 9.";
    private static final String END_AT = "Where such DRIVES from a PLACE can end (bits; 0: there are none).";
    private static final String REFUSED = "BAD; NOTHING; SIZE; UNLIKE.";
    private static final String FIRST_ONE = "The first such DRIVE (by numbers of ROADS) comes to a ROW (anew): "
        + "where it ends.";
    private static final String CAN_BE = "Where one can be by a FELT ROW from anywhere (bits; 0: nowhere); "
        + "where one can have begun (bits) by asked().";
    private static final String FEWEST = "The fewest numbers of a FELT ROW that have to be others so that it can be "
        + "driven from a PLACE; where such a DRIVE ends (the least PLACE) by asked().";
    private static final String NEXT_ONE = "Of all FELT ROWS that begin as one does the next number (0 .. 9) by which, "
        + "driven from anywhere so far, fewest PLACES can be where one is then, but one at least (the first); "
        + "how many by asked().";
    private static final String NEXT_REFUSED = "BAD; NOTHING; SIZE: more than 15; UNLIKE.";
    private static final String MAP = "Marks of a map: a ROW of numbers 0 .. 9 (6 at most): in how many ways each can be "
        + "one ROAD that feels so, all unlike; ROADS that are among them in all ways (bits; 0: no way) by asked().";
    private static final String TEN_ROUNDS = "n1" + "r000".repeat(10);
    private static final String SQUARE = "n4 r012 r122 r232 r302";

    /** A call that asks of a ROW (and a PLACE, where it takes one). */
    private interface Ask {
        int of(BumpMap x, int r, int p);
    }

    // ---- what the seven calls refuse alike

    private static void badRows(Sentences s, Ask ask) {
        BumpMap x = Check.landed(SQUARE);
        x.row(0, 1);
        for (int r : new int[] {-1, 6, LEAST, MOST}) s.refused(x, BAD, () -> ask.of(x, r, 0));
    }

    private static void badPlaces(Sentences s, Ask ask) {
        BumpMap x = Check.landed(SQUARE);
        x.row(0, 1);
        for (int p : new int[] {-1, 4, 7, LEAST, MOST}) s.refused(x, BAD, () -> ask.of(x, 0, p));
        BumpMap y = new BumpMap();
        y.row(0, 0);
        s.refused(y, BAD, () -> ask.of(y, 0, 0));
    }

    private static void missingRows(Sentences s, Ask ask) {
        BumpMap x = Check.landed(SQUARE);
        for (int r = 0; r < 6; r++) {
            int row = r;
            s.found(x, NOTHING, () -> ask.of(x, row, 3));
        }
    }

    private static void moreThan(Sentences s, int most, Ask ask) {
        BumpMap x = Check.landed(SQUARE);
        x.row(0, most);
        s.holds(ask.of(x, 0, 0) != BumpMap.FINDING);
        for (int n : new int[] {most + 1, most + 2, 40}) {
            x.row(0, n);
            s.found(x, SIZE, () -> ask.of(x, 0, 0));
        }
        x.row(0, most + 1);
        x.lay(0, 0, -1);
        s.found(x, SIZE, () -> ask.of(x, 0, 0));
    }

    private static void noFigures(Sentences s, int most, Ask ask) {
        BumpMap x = Check.landed(SQUARE);
        for (int v : new int[] {-1, 10, LEAST, MOST}) {
            Check.fill(x, 0, v);
            s.found(x, UNLIKE, () -> ask.of(x, 0, 0));
        }
        x.row(0, most);
        x.lay(0, most - 1, 10);
        s.found(x, UNLIKE, () -> ask.of(x, 0, 0));
        x.lay(0, most - 1, -1);
        s.found(x, UNLIKE, () -> ask.of(x, 0, 0));
        Check.fill(x, 0, 0, 9);
        s.holds(ask.of(x, 0, 0) != BumpMap.FINDING);
    }

    // ---- promise 25

    static void drivesOfNoRoads(Sentences s) {
        s.says(DRIVES, HOW_MANY);
        BumpMap x = Check.landed("n2 t010");
        x.row(0, 0);
        s.upper(x, x.drives(0, 0), 1);
        s.upper(x, x.drives(0, 1), 1);
    }

    static void drivesThatThereAreNone(Sentences s) {
        s.says(DRIVES, HOW_MANY);
        BumpMap x = Check.landed("n2 t010");
        Check.fill(x, 0, 0, 0);
        x.drives(0, 0);
        s.upper(x, x.drives(0, 0), 0);
        Check.fill(x, 0, 9);
        s.upper(x, x.drives(0, 0), 0);
        Check.fill(x, 0, 0);
        s.upper(x, x.drives(0, 0), 1);
        s.upper(x, x.drives(0, 1), 0);
    }

    static void drivesTenToTheSixteen(Sentences s) {
        s.says(DRIVES, HOW_MANY);
        BumpMap x = Check.landed(TEN_ROUNDS);
        x.row(0, 16);
        s.upper(x, x.drives(0, 0), 10000000000000000L);
        x.row(0, 1);
        s.upper(x, x.drives(0, 0), 10);
    }

    static void drivesOverARoundCountItOnce(Sentences s) {
        s.says(DRIVES, HOW_MANY);
        BumpMap x = Check.landed("n2 r003 r013 r013");
        Check.fill(x, 0, 3);
        s.upper(x, x.drives(0, 0), 3);
        s.upper(x, x.drives(0, 1), 2);
        Check.fill(x, 0, 3, 3);
        s.upper(x, x.drives(0, 0), 7);
    }

    static void drivesBadRow(Sentences s) {
        s.says(DRIVES, DRIVES_REFUSED);
        badRows(s, (x, r, p) -> x.drives(r, p));
    }

    static void drivesBadPlace(Sentences s) {
        s.says(DRIVES, DRIVES_REFUSED);
        badPlaces(s, (x, r, p) -> x.drives(r, p));
    }

    static void drivesNothing(Sentences s) {
        s.says(DRIVES, DRIVES_REFUSED);
        missingRows(s, (x, r, p) -> x.drives(r, p));
    }

    static void drivesSize(Sentences s) {
        s.says(DRIVES, DRIVES_REFUSED);
        moreThan(s, 16, (x, r, p) -> x.drives(r, p));
    }

    static void drivesUnlike(Sentences s) {
        s.says(DRIVES, DRIVES_REFUSED);
        noFigures(s, 16, (x, r, p) -> x.drives(r, p));
    }

    // ---- promise 26

    static void endsNowhere(Sentences s) {
        s.says(ENDS, END_AT);
        BumpMap x = Check.landed("n2 t010");
        Check.fill(x, 0, 0, 0);
        s.due(x.ends(0, 0), 0);
        Check.fill(x, 0, 0);
        s.due(x.ends(0, 1), 0);
        s.due(x.ends(0, 0), 2);
    }

    static void endsAnywhere(Sentences s) {
        s.says(ENDS, END_AT);
        BumpMap x = Check.landed("n7 t000 t010 t020 t030 t040 t050 t060");
        Check.fill(x, 0, 0);
        s.due(x.ends(0, 0), 127);
        s.due(x.ends(0, 6), 0);
        x.row(0, 16);
        s.due(x.ends(0, 0), 127);
    }

    static void endsOfNoRoads(Sentences s) {
        s.says(ENDS, END_AT);
        BumpMap x = Check.landed("n7");
        x.row(0, 0);
        for (int p = 0; p < 7; p++) s.due(x.ends(0, p), 1 << p);
    }

    static void endsBad(Sentences s) {
        s.says(ENDS, REFUSED);
        badRows(s, (x, r, p) -> x.ends(r, p));
        badPlaces(s, (x, r, p) -> x.ends(r, p));
    }

    static void endsNothing(Sentences s) {
        s.says(ENDS, REFUSED);
        missingRows(s, (x, r, p) -> x.ends(r, p));
    }

    static void endsSize(Sentences s) {
        s.says(ENDS, REFUSED);
        moreThan(s, 16, (x, r, p) -> x.ends(r, p));
    }

    static void endsUnlike(Sentences s) {
        s.says(ENDS, REFUSED);
        noFigures(s, 16, (x, r, p) -> x.ends(r, p));
    }

    // ---- promise 27

    static void firstOfSixteen(Sentences s) {
        s.says(FIRST, FIRST_ONE);
        BumpMap x = Check.landed("n2 r010 r010 t000 t110");
        x.row(0, 16);
        s.due(x.first(0, 0, 1), 0);
        s.row(x, 1, new int[16]);
        x.row(0, 15);
        s.due(x.first(0, 0, 1), 1);
        s.row(x, 1, new int[15]);
    }

    static void firstByNumbersOfRoads(Sentences s) {
        s.says(FIRST, FIRST_ONE);
        // From 0 by 0 to PLACE 1, which goes on by 2, or to PLACE 2, which goes on by 4; by 4 over the tenth ROAD.
        BumpMap x = Check.landed("n4t010t020t121t131t131t232t232t232t330t032");
        Check.fill(x, 0, 0, 2);
        s.due(x.first(0, 0, 1), 2);
        s.row(x, 1, 0, 2);
        Check.fill(x, 0, 0, 4);
        s.due(x.first(0, 0, 1), 3);
        s.row(x, 1, 1, 5);
        Check.fill(x, 0, 4, 0);
        s.due(x.first(0, 0, 1), 3);
        s.row(x, 1, 9, 8);
    }

    static void firstComesAnew(Sentences s) {
        s.says(FIRST, FIRST_ONE);
        BumpMap x = Check.landed("n2 r012");
        Check.fill(x, 0, 2);
        Check.fill(x, 1, 7, 8, 9);
        s.due(x.first(0, 1, 1), 0);
        s.row(x, 1, 0);
        s.due(x.first(0, 0, 5), 1);
        s.row(x, 5, 0);
        s.due(x.first(0, 0, 0), 1);
        s.row(x, 0, 0);
    }

    static void firstOfNoRoads(Sentences s) {
        s.says(FIRST, FIRST_ONE);
        BumpMap x = Check.landed("n7");
        x.row(0, 0);
        Check.fill(x, 1, 7);
        s.due(x.first(0, 6, 1), 6);
        s.row(x, 1);
    }

    static void firstNone(Sentences s) {
        s.says(FIRST, "NONE: there is none.");
        BumpMap x = Check.landed("n3 t010 t120");
        Check.fill(x, 0, 0, 0, 0);
        Check.fill(x, 1, 7);
        s.refused(x, NONE, () -> x.first(0, 0, 1));
        s.refused(x, NONE, () -> x.first(0, 2, 1));
        s.row(x, 1, 7);
        Check.fill(x, 0, 0, 0);
        s.due(x.first(0, 0, 1), 2);
        s.refused(x, NONE, () -> x.first(0, 1, 0));
        s.row(x, 0, 0, 0);
    }

    static void firstBad(Sentences s) {
        s.says(FIRST, REFUSED);
        badRows(s, (x, r, p) -> x.first(r, p, 1));
        badPlaces(s, (x, r, p) -> x.first(r, p, 1));
        badRows(s, (x, r, p) -> x.first(0, p, r));
    }

    static void firstNothing(Sentences s) {
        s.says(FIRST, REFUSED);
        missingRows(s, (x, r, p) -> x.first(r, p, 1));
        missingRows(s, (x, r, p) -> x.first(r, p, r));
    }

    static void firstSize(Sentences s) {
        s.says(FIRST, REFUSED);
        moreThan(s, 16, (x, r, p) -> x.first(r, p, 1));
    }

    static void firstUnlike(Sentences s) {
        s.says(FIRST, REFUSED);
        noFigures(s, 16, (x, r, p) -> x.first(r, p, 1));
    }

    // ---- promise 28

    static void whereNowhere(Sentences s) {
        s.says(WHERE, CAN_BE);
        BumpMap x = Check.landed("n3 t010 t120");
        Check.fill(x, 0, 0, 0, 0);
        x.look(7);
        s.told(x, x.where(0), 0, 0);
        Check.fill(x, 0, 0, 0);
        s.told(x, x.where(0), 4, 1);
        Check.fill(x, 0, 9);
        s.told(x, x.where(0), 0, 0);
    }

    static void whereAnywhere(Sentences s) {
        s.says(WHERE, CAN_BE);
        BumpMap x = Check.landed("n7");
        x.row(0, 0);
        s.told(x, x.where(0), 127, 127);
        BumpMap y = Check.landed("n7 t060 t100 t210 t320 t430 t540 t650");
        y.row(0, 16);
        s.told(y, y.where(0), 127, 127);
    }

    static void whereWithoutPlaces(Sentences s) {
        s.says(WHERE, CAN_BE);
        BumpMap x = new BumpMap();
        Check.fill(x, 0, 3);
        x.at(0, 0);
        s.told(x, x.where(0), 0, 0);
        x.row(0, 0);
        s.told(x, x.where(0), 0, 0);
    }

    static void whereBad(Sentences s) {
        s.says(WHERE, REFUSED);
        badRows(s, (x, r, p) -> x.where(r));
    }

    static void whereNothing(Sentences s) {
        s.says(WHERE, REFUSED);
        missingRows(s, (x, r, p) -> x.where(r));
    }

    static void whereSize(Sentences s) {
        s.says(WHERE, REFUSED);
        moreThan(s, 16, (x, r, p) -> x.where(r));
    }

    static void whereUnlike(Sentences s) {
        s.says(WHERE, REFUSED);
        noFigures(s, 16, (x, r, p) -> x.where(r));
    }

    // ---- promise 29

    static void slipsNone(Sentences s) {
        s.says(SLIPS, FEWEST);
        BumpMap x = Check.landed("n2 t010");
        x.row(0, 0);
        s.told(x, x.slips(0, 1), 0, 1);
        Check.fill(x, 0, 0);
        s.told(x, x.slips(0, 0), 0, 1);
    }

    static void slipsAllSixteen(Sentences s) {
        s.says(SLIPS, FEWEST);
        BumpMap x = Check.landed("n1 r000");
        Check.fill(x, 0, 9, 9, 9, 9, 9, 9, 9, 9, 9, 9, 9, 9, 9, 9, 9, 9);
        s.told(x, x.slips(0, 0), 16, 0);
        x.lay(0, 15, 0);
        s.told(x, x.slips(0, 0), 15, 0);
    }

    static void slipsToTheLeastPlace(Sentences s) {
        s.says(SLIPS, FEWEST);
        BumpMap x = Check.landed("n7 t361 t352 t333 t344");
        Check.fill(x, 0, 9);
        s.told(x, x.slips(0, 3), 1, 3);
        Check.fill(x, 0, 4);
        s.told(x, x.slips(0, 3), 0, 5);
        Check.fill(x, 0, 6, 9);
        s.told(x, x.slips(0, 3), 1, 3);
    }

    static void slipsNoneOfAsManyRoads(Sentences s) {
        s.says(SLIPS, "NONE: none of as many ROADS can be.");
        BumpMap x = Check.landed("n3 t010 t120");
        Check.fill(x, 0, 0, 0, 0);
        s.refused(x, NONE, () -> x.slips(0, 0));
        Check.fill(x, 0, 9, 9);
        s.told(x, x.slips(0, 0), 2, 2);
        s.refused(x, NONE, () -> x.slips(0, 1));
        Check.fill(x, 0, 0);
        s.refused(x, NONE, () -> x.slips(0, 2));
    }

    static void slipsBad(Sentences s) {
        s.says(SLIPS, REFUSED);
        badRows(s, (x, r, p) -> x.slips(r, p));
        badPlaces(s, (x, r, p) -> x.slips(r, p));
    }

    static void slipsNothing(Sentences s) {
        s.says(SLIPS, REFUSED);
        missingRows(s, (x, r, p) -> x.slips(r, p));
    }

    static void slipsSize(Sentences s) {
        s.says(SLIPS, REFUSED);
        moreThan(s, 16, (x, r, p) -> x.slips(r, p));
    }

    static void slipsUnlike(Sentences s) {
        s.says(SLIPS, REFUSED);
        noFigures(s, 16, (x, r, p) -> x.slips(r, p));
    }

    // ---- promise 30

    static void nextTheFirstOfSeveral(Sentences s) {
        s.says(NEXT, NEXT_ONE);
        BumpMap x = Check.landed("n3 f000 t010 r110");
        x.row(0, 0);
        s.told(x, x.next(0), 0, 1);
        BumpMap y = Check.landed("n3 r003 r115 r224");
        y.row(0, 0);
        s.told(y, y.next(0), 3, 1);
        Check.fill(y, 0, 5);
        s.told(y, y.next(0), 5, 1);
    }

    static void nextNoughtAndNine(Sentences s) {
        s.says(NEXT, NEXT_ONE);
        BumpMap x = Check.landed("n2 p010 f010");
        x.row(0, 0);
        s.told(x, x.next(0), 0, 2);
        BumpMap y = Check.landed("n2 f010");
        y.row(0, 15);
        for (int i = 0; i < 15; i++) y.lay(0, i, 9);
        s.told(y, y.next(0), 9, 2);
    }

    static void nextOneAtLeast(Sentences s) {
        s.says(NEXT, NEXT_ONE);
        BumpMap x = Check.landed("n7 t065 t165 t265 t365 t465 t565 t665");
        x.row(0, 0);
        s.told(x, x.next(0), 9, 1);
        BumpMap y = Check.landed("n7 t065 t155 t245 t335 t425 t515 t605");
        y.row(0, 0);
        s.told(y, y.next(0), 9, 7);
    }

    static void nextFifteenNumbersAhead(Sentences s) {
        s.says(NEXT, NEXT_ONE);
        BumpMap x = Check.landed("n2 p000 t011");
        x.row(0, 15);
        s.told(x, x.next(0), 0, 1);
    }

    static void nextNone(Sentences s) {
        s.says(NEXT, "NONE: it can't go on.");
        BumpMap x = Check.landed("n3 t010 t120");
        x.row(0, 0);
        s.told(x, x.next(0), 0, 2);
        x.row(0, 1);
        s.told(x, x.next(0), 0, 1);
        x.row(0, 2);
        s.refused(x, NONE, () -> x.next(0));
        x.row(0, 3);
        s.refused(x, NONE, () -> x.next(0));
        Check.fill(x, 0, 9);
        s.refused(x, NONE, () -> x.next(0));
    }

    static void nextNoneWithoutRoadsOrPlaces(Sentences s) {
        s.says(NEXT, "NONE: it can't go on.");
        BumpMap x = Check.landed("n7");
        x.row(0, 0);
        s.refused(x, NONE, () -> x.next(0));
        BumpMap y = new BumpMap();
        y.row(0, 0);
        s.refused(y, NONE, () -> y.next(0));
    }

    static void nextBad(Sentences s) {
        s.says(NEXT, NEXT_REFUSED);
        badRows(s, (x, r, p) -> x.next(r));
    }

    static void nextNothing(Sentences s) {
        s.says(NEXT, NEXT_REFUSED);
        missingRows(s, (x, r, p) -> x.next(r));
    }

    static void nextSize(Sentences s) {
        s.says(NEXT, NEXT_REFUSED);
        moreThan(s, 15, (x, r, p) -> x.next(r));
    }

    static void nextUnlike(Sentences s) {
        s.says(NEXT, NEXT_REFUSED);
        noFigures(s, 15, (x, r, p) -> x.next(r));
    }

    // ---- promise 34

    static void marksOfNone(Sentences s) {
        s.says(MARKS, MAP);
        BumpMap x = Check.landed("n2 r012");
        x.row(0, 0);
        s.told(x, x.marks(0), 1, 0);
        BumpMap y = new BumpMap();
        y.row(0, 0);
        s.told(y, y.marks(0), 1, 0);
        y.row(0, 1);
        s.told(y, y.marks(0), 0, 0);
    }

    static void marksOfSixAmongTen(Sentences s) {
        s.says(MARKS, MAP);
        BumpMap x = Check.landed(TEN_ROUNDS);
        x.row(0, 6);
        s.told(x, x.marks(0), 151200, 0);
        BumpMap y = Check.landed("n1" + "r000".repeat(6));
        y.row(0, 6);
        s.told(y, y.marks(0), 720, 63);
        BumpMap z = Check.landed("n1" + "r000".repeat(5));
        z.row(0, 6);
        s.told(z, z.marks(0), 0, 0);
    }

    static void marksNoWay(Sentences s) {
        s.says(MARKS, MAP);
        BumpMap x = Check.landed("n2 r012 f010 p010");
        Check.fill(x, 0, 2, 2);
        s.told(x, x.marks(0), 0, 0);
        Check.fill(x, 0, 2, 5);
        s.told(x, x.marks(0), 0, 0);
        Check.fill(x, 0, 9, 0, 2);
        s.told(x, x.marks(0), 1, 7);
        Check.fill(x, 0, 9, 0);
        s.told(x, x.marks(0), 1, 6);
    }

    static void marksAmongThemInAllWays(Sentences s) {
        s.says(MARKS, MAP);
        BumpMap x = Check.landed("n2 r012 r012 r013");
        Check.fill(x, 0, 2);
        s.told(x, x.marks(0), 2, 0);
        Check.fill(x, 0, 2, 2);
        s.told(x, x.marks(0), 2, 3);
        Check.fill(x, 0, 3, 2);
        s.told(x, x.marks(0), 2, 4);
    }

    static void marksBad(Sentences s) {
        s.says(MARKS, REFUSED);
        badRows(s, (x, r, p) -> x.marks(r));
    }

    static void marksNothing(Sentences s) {
        s.says(MARKS, REFUSED);
        missingRows(s, (x, r, p) -> x.marks(r));
    }

    static void marksSize(Sentences s) {
        s.says(MARKS, REFUSED);
        moreThan(s, 6, (x, r, p) -> x.marks(r));
    }

    static void marksUnlike(Sentences s) {
        s.says(MARKS, REFUSED);
        noFigures(s, 6, (x, r, p) -> x.marks(r));
    }
}
