/** Promises 1 to 7: a new object and its ROWS. */
final class RowEdges {
    private static final int BAD = BumpMap.BAD;
    private static final int NOTHING = 1, BEYOND = 2, NOUGHT = 4, SIZE = 5;
    private static final int LEAST = Integer.MIN_VALUE, MOST = Integer.MAX_VALUE;
    private static final String NEW = "Promise 1", ROW = "Promise 2", LAY = "Promise 3", AT = "Promise 4",
        TEAR = "Promise 5", COPY = "Promise 6", MEAN = "Promise 7";
    private static final String ROW_OF = "A ROW is there with n ints 0: n.";
    private static final String ROW_REFUSED = "BAD: also n above 40; SIZE: below 0.";
    private static final String CELL_REFUSED = "BAD; NOTHING; BEYOND.";
    private static final String COPIED = "n places of a ROW, from one on, come to those of another one "
        + "(perhaps itself) from one on, as if taken ahead: 1.";
    private static final String COPY_REFUSED = "BAD; SIZE: n below 0; NOTHING: either; BEYOND: not so many there "
        + "(with n 0, too, if i or j is below 0 or above the size).";
    private static final String CUT = "The mean of a ROW's ints, cut, told by asked(): 1.";
    private static final String MEAN_REFUSED = "BAD; NOTHING; NOUGHT.";
    private static final int[] NO_ROWS = {-1, 6, LEAST, MOST};

    // ---- promise 1

    static void aNewObjectHasNothing(Sentences s) {
        s.says(NEW, "No ROWS, TEXTS, PLACES, ROADS; one WHEEL.");
        BumpMap x = new BumpMap();
        for (int what = 0; what < 8; what++) s.due(x.count(what), 0);
        for (int r = 0; r < 6; r++) s.missing(x, r);
        s.due(x.wheels(1), 1);
    }

    static void eachNewObjectIsItsOwn(Sentences s) {
        s.says(NEW, "No ROWS, TEXTS, PLACES, ROADS; one WHEEL.");
        BumpMap x = Check.landed("n2 r012");
        x.row(0, 3);
        x.wheels(3);
        BumpMap y = new BumpMap();
        for (int what = 0; what < 8; what++) s.due(y.count(what), 0);
        s.due(y.wheels(2), 1);
        s.due(x.wheels(1), 3);
    }

    // ---- promise 2

    static void rowOfNoneToForty(Sentences s) {
        s.says(ROW, ROW_OF);
        BumpMap x = new BumpMap();
        s.due(x.row(0, 0), 0);
        s.row(x, 0);
        s.due(x.row(2, 1), 1);
        s.row(x, 2, 0);
        s.due(x.row(5, 40), 40);
        s.row(x, 5, new int[40]);
    }

    static void rowAnewIsOfNoughtsAgain(Sentences s) {
        s.says(ROW, ROW_OF);
        BumpMap x = new BumpMap();
        Check.fill(x, 0, 4, 5, 6);
        s.due(x.row(0, 2), 2);
        s.row(x, 0, 0, 0);
        s.due(x.row(0, 3), 3);
        s.row(x, 0, 0, 0, 0);
    }

    static void rowBad(Sentences s) {
        s.says(ROW, ROW_REFUSED);
        BumpMap x = new BumpMap();
        Check.fill(x, 0, 4);
        for (int r : NO_ROWS) s.refused(x, BAD, () -> x.row(r, 1));
        for (int n : new int[] {41, 42, MOST}) s.refused(x, BAD, () -> x.row(0, n));
        s.refused(x, BAD, () -> x.row(1, 41));
        s.refused(x, BAD, () -> x.row(6, -1));
        s.missing(x, 1);
    }

    static void rowSize(Sentences s) {
        s.says(ROW, ROW_REFUSED);
        BumpMap x = new BumpMap();
        Check.fill(x, 0, 4);
        for (int n : new int[] {-1, -40, LEAST}) s.found(x, SIZE, () -> x.row(0, n));
        s.found(x, SIZE, () -> x.row(1, -1));
        s.row(x, 0, 4);
        s.missing(x, 1);
    }

    // ---- promises 3, 4

    static void layAtTheFirstAndLastPlace(Sentences s) {
        s.says(LAY, "Place i of a ROW is v: what it was, told by asked(): 1.");
        BumpMap x = new BumpMap();
        x.row(5, 40);
        s.told(x, x.lay(5, 0, LEAST), 1, 0);
        s.told(x, x.lay(5, 39, MOST), 1, 0);
        s.told(x, x.lay(5, 0, -1), 1, LEAST);
        s.told(x, x.lay(5, 39, 0), 1, MOST);
        s.told(x, x.lay(5, 0, 0), 1, -1);
        s.told(x, x.at(5, 1), 1, 0);
        s.told(x, x.at(5, 38), 1, 0);
    }

    static void layBad(Sentences s) {
        s.says(LAY, CELL_REFUSED);
        BumpMap x = new BumpMap();
        x.row(0, 1);
        for (int r : NO_ROWS) s.refused(x, BAD, () -> x.lay(r, 0, 1));
        s.refused(x, BAD, () -> x.lay(6, -1, 1));
    }

    static void layNothing(Sentences s) {
        s.says(LAY, CELL_REFUSED);
        BumpMap x = new BumpMap();
        for (int r = 0; r < 6; r++) {
            int row = r;
            s.found(x, NOTHING, () -> x.lay(row, 0, 1));
        }
        s.found(x, NOTHING, () -> x.lay(0, -1, 1));
        s.found(x, NOTHING, () -> x.lay(0, 40, 1));
    }

    static void layBeyond(Sentences s) {
        s.says(LAY, CELL_REFUSED);
        BumpMap x = new BumpMap();
        x.row(0, 0);
        x.row(1, 40);
        for (int i : new int[] {0, -1, 1}) s.found(x, BEYOND, () -> x.lay(0, i, 1));
        for (int i : new int[] {-1, 40, 41, LEAST, MOST}) s.found(x, BEYOND, () -> x.lay(1, i, 1));
    }

    static void atTheFirstAndLastPlace(Sentences s) {
        s.says(AT, "Place i of a ROW, told by asked(): 1.");
        BumpMap x = new BumpMap();
        x.row(5, 40);
        x.lay(5, 0, LEAST);
        x.lay(5, 39, MOST);
        s.told(x, x.at(5, 0), 1, LEAST);
        s.told(x, x.at(5, 39), 1, MOST);
        s.told(x, x.at(5, 0), 1, LEAST);
    }

    static void atBad(Sentences s) {
        s.says(AT, CELL_REFUSED);
        BumpMap x = new BumpMap();
        x.row(0, 1);
        for (int r : NO_ROWS) s.refused(x, BAD, () -> x.at(r, 0));
        s.refused(x, BAD, () -> x.at(6, -1));
    }

    static void atNothing(Sentences s) {
        s.says(AT, CELL_REFUSED);
        BumpMap x = new BumpMap();
        for (int r = 0; r < 6; r++) {
            int row = r;
            s.found(x, NOTHING, () -> x.at(row, 0));
        }
        s.found(x, NOTHING, () -> x.at(0, -1));
        s.found(x, NOTHING, () -> x.at(0, 40));
    }

    static void atBeyond(Sentences s) {
        s.says(AT, CELL_REFUSED);
        BumpMap x = new BumpMap();
        x.row(0, 0);
        x.row(1, 40);
        for (int i : new int[] {0, -1, 1}) s.found(x, BEYOND, () -> x.at(0, i));
        for (int i : new int[] {-1, 40, 41, LEAST, MOST}) s.found(x, BEYOND, () -> x.at(1, i));
    }

    // ---- promise 5

    static void tearLeavesNone(Sentences s) {
        s.says(TEAR, "A ROW is missing: 1.");
        BumpMap x = new BumpMap();
        x.row(0, 0);
        x.row(5, 40);
        x.row(3, 1);
        s.due(x.tear(0), 1);
        s.due(x.tear(5), 1);
        s.missing(x, 0);
        s.missing(x, 5);
        s.row(x, 3, 0);
        s.due(x.count(6), 1);
        s.due(x.row(5, 1), 1);
        s.row(x, 5, 0);
    }

    static void tearLeavesNothingToCount(Sentences s) {
        s.says(TEAR, "A ROW is missing: 1.");
        BumpMap x = new BumpMap();
        long before = x.digest();
        Check.fill(x, 0, 4, 5, 6);
        s.due(x.tear(0), 1);
        s.due(x.digest(), before);
        s.due(x.row(0, 2), 2);
        s.row(x, 0, 0, 0);
    }

    static void tearBad(Sentences s) {
        s.says(TEAR, "BAD; NOTHING.");
        BumpMap x = new BumpMap();
        x.row(0, 1);
        for (int r : NO_ROWS) s.refused(x, BAD, () -> x.tear(r));
    }

    static void tearNothing(Sentences s) {
        s.says(TEAR, "BAD; NOTHING.");
        BumpMap x = new BumpMap();
        for (int r = 0; r < 6; r++) {
            int row = r;
            s.found(x, NOTHING, () -> x.tear(row));
        }
        x.row(2, 3);
        x.tear(2);
        s.found(x, NOTHING, () -> x.tear(2));
    }

    // ---- promise 6

    static void copyOfAWholeRow(Sentences s) {
        s.says(COPY, COPIED);
        BumpMap x = new BumpMap();
        x.row(0, 40);
        x.row(5, 40);
        x.lay(0, 0, LEAST);
        x.lay(0, 39, MOST);
        s.due(x.copy(0, 0, 5, 0, 40), 1);
        s.told(x, x.at(5, 0), 1, LEAST);
        s.told(x, x.at(5, 39), 1, MOST);
        s.told(x, x.at(5, 20), 1, 0);
    }

    static void copyOfTheLastPlace(Sentences s) {
        s.says(COPY, COPIED);
        BumpMap x = new BumpMap();
        Check.fill(x, 0, 1, 2, 3);
        Check.fill(x, 1, 7, 8);
        s.due(x.copy(0, 2, 1, 1, 1), 1);
        s.row(x, 1, 7, 3);
        s.row(x, 0, 1, 2, 3);
        s.due(x.copy(0, 0, 1, 0, 1), 1);
        s.row(x, 1, 1, 3);
    }

    static void copyWithinItselfAsIfTakenAhead(Sentences s) {
        s.says(COPY, COPIED);
        BumpMap x = new BumpMap();
        Check.fill(x, 0, 1, 2, 3, 4);
        s.due(x.copy(0, 0, 0, 1, 3), 1);
        s.row(x, 0, 1, 1, 2, 3);
        Check.fill(x, 1, 1, 2, 3, 4);
        s.due(x.copy(1, 1, 1, 0, 3), 1);
        s.row(x, 1, 2, 3, 4, 4);
        s.due(x.copy(1, 0, 1, 0, 4), 1);
        s.row(x, 1, 2, 3, 4, 4);
    }

    static void copyOfNone(Sentences s) {
        s.says(COPY, COPIED);
        BumpMap x = new BumpMap();
        Check.fill(x, 0, 1, 2);
        x.row(1, 0);
        s.refused(x, 1, () -> x.copy(0, 0, 1, 0, 0));
        s.refused(x, 1, () -> x.copy(1, 0, 0, 0, 0));
        s.refused(x, 1, () -> x.copy(0, 2, 1, 0, 0));
        s.refused(x, 1, () -> x.copy(1, 0, 0, 2, 0));
        s.refused(x, 1, () -> x.copy(1, 0, 1, 0, 0));
    }

    static void copyBad(Sentences s) {
        s.says(COPY, COPY_REFUSED);
        BumpMap x = new BumpMap();
        x.row(0, 1);
        for (int r : NO_ROWS) {
            s.refused(x, BAD, () -> x.copy(r, 0, 0, 0, 1));
            s.refused(x, BAD, () -> x.copy(0, 0, r, 0, 1));
        }
    }

    static void copySize(Sentences s) {
        s.says(COPY, COPY_REFUSED);
        BumpMap x = new BumpMap();
        Check.fill(x, 0, 1, 2);
        for (int n : new int[] {-1, -2, LEAST}) s.found(x, SIZE, () -> x.copy(0, 1, 0, 1, n));
    }

    static void copyNothing(Sentences s) {
        s.says(COPY, COPY_REFUSED);
        BumpMap x = new BumpMap();
        x.row(0, 2);
        s.found(x, NOTHING, () -> x.copy(0, 0, 1, 0, 1));
        s.found(x, NOTHING, () -> x.copy(1, 0, 0, 0, 1));
        s.found(x, NOTHING, () -> x.copy(1, 0, 2, 0, 1));
        s.found(x, NOTHING, () -> x.copy(1, 0, 1, 0, 0));
    }

    static void copyBeyondWithSome(Sentences s) {
        s.says(COPY, COPY_REFUSED);
        BumpMap x = new BumpMap();
        Check.fill(x, 0, 1, 2, 3);
        Check.fill(x, 1, 7, 8);
        s.found(x, BEYOND, () -> x.copy(0, 0, 1, 0, 3));
        s.found(x, BEYOND, () -> x.copy(1, 0, 0, 0, 3));
        s.found(x, BEYOND, () -> x.copy(0, 3, 1, 0, 1));
        s.found(x, BEYOND, () -> x.copy(0, 0, 1, 2, 1));
        s.found(x, BEYOND, () -> x.copy(0, 2, 1, 0, 2));
        s.found(x, BEYOND, () -> x.copy(0, 0, 1, 1, 2));
        s.found(x, BEYOND, () -> x.copy(0, -1, 1, 0, 1));
        s.found(x, BEYOND, () -> x.copy(0, 0, 1, -1, 1));
        s.found(x, BEYOND, () -> x.copy(0, 0, 0, 0, 4));
    }

    static void copyBeyondByNumbersThatWrapAround(Sentences s) {
        s.says(COPY, COPY_REFUSED);
        BumpMap x = new BumpMap();
        Check.fill(x, 0, 1, 2, 3);
        s.found(x, BEYOND, () -> x.copy(0, 0, 0, 0, MOST));
        s.found(x, BEYOND, () -> x.copy(0, 1, 0, 1, MOST));
        s.found(x, BEYOND, () -> x.copy(0, MOST, 0, 0, 1));
        s.found(x, BEYOND, () -> x.copy(0, 0, 0, MOST, 1));
        s.found(x, BEYOND, () -> x.copy(0, MOST, 0, MOST, MOST));
        s.found(x, BEYOND, () -> x.copy(0, LEAST, 0, 0, MOST));
        s.found(x, BEYOND, () -> x.copy(0, 0, 0, LEAST, MOST));
    }

    static void copyBeyondWithNone(Sentences s) {
        s.says(COPY, COPY_REFUSED);
        BumpMap x = new BumpMap();
        Check.fill(x, 0, 1, 2, 3);
        x.row(1, 0);
        s.found(x, BEYOND, () -> x.copy(0, -1, 1, 0, 0));
        s.found(x, BEYOND, () -> x.copy(0, 4, 1, 0, 0));
        s.found(x, BEYOND, () -> x.copy(0, 0, 1, -1, 0));
        s.found(x, BEYOND, () -> x.copy(0, 0, 1, 1, 0));
        s.found(x, BEYOND, () -> x.copy(0, LEAST, 1, 0, 0));
        s.found(x, BEYOND, () -> x.copy(0, 0, 1, MOST, 0));
    }

    static void copyRefusedInThisOrder(Sentences s) {
        s.says(COPY, "(In this order.)");
        BumpMap x = new BumpMap();
        x.row(0, 2);
        s.refused(x, BAD, () -> x.copy(6, -1, 1, -1, -1));
        s.refused(x, BAD, () -> x.copy(1, -1, 6, -1, -1));
        s.found(x, SIZE, () -> x.copy(1, -1, 0, -1, -1));
        s.found(x, SIZE, () -> x.copy(0, 3, 1, 3, -1));
        s.found(x, NOTHING, () -> x.copy(1, -1, 0, 0, 1));
        s.found(x, NOTHING, () -> x.copy(0, 3, 1, 0, 0));
        s.found(x, BEYOND, () -> x.copy(0, 3, 0, 0, 0));
    }

    // ---- promise 7

    static void meanIsCutToNought(Sentences s) {
        s.says(MEAN, CUT);
        BumpMap x = new BumpMap();
        Check.fill(x, 0, 1, 2);
        s.told(x, x.mean(0), 1, 1);
        Check.fill(x, 0, -1, -2);
        s.told(x, x.mean(0), 1, -1);
        Check.fill(x, 0, 0, 0, 2);
        s.told(x, x.mean(0), 1, 0);
        Check.fill(x, 0, 0, 0, -2);
        s.told(x, x.mean(0), 1, 0);
        Check.fill(x, 0, LEAST, MOST);
        s.told(x, x.mean(0), 1, 0);
    }

    static void meanOfOne(Sentences s) {
        s.says(MEAN, CUT);
        BumpMap x = new BumpMap();
        Check.fill(x, 0, LEAST);
        s.told(x, x.mean(0), 1, LEAST);
        Check.fill(x, 0, MOST);
        s.told(x, x.mean(0), 1, MOST);
    }

    static void meanOfFortyGreatOnes(Sentences s) {
        s.says(MEAN, CUT);
        BumpMap x = new BumpMap();
        x.row(0, 40);
        x.row(1, 40);
        for (int i = 0; i < 40; i++) {
            x.lay(0, i, MOST);
            x.lay(1, i, LEAST);
        }
        s.told(x, x.mean(0), 1, MOST);
        s.told(x, x.mean(1), 1, LEAST);
        x.lay(0, 39, MOST - 1);
        s.told(x, x.mean(0), 1, MOST - 1);
    }

    static void meanBad(Sentences s) {
        s.says(MEAN, MEAN_REFUSED);
        BumpMap x = new BumpMap();
        x.row(0, 1);
        for (int r : NO_ROWS) s.refused(x, BAD, () -> x.mean(r));
    }

    static void meanNothing(Sentences s) {
        s.says(MEAN, MEAN_REFUSED);
        BumpMap x = new BumpMap();
        for (int r = 0; r < 6; r++) {
            int row = r;
            s.found(x, NOTHING, () -> x.mean(row));
        }
    }

    static void meanNought(Sentences s) {
        s.says(MEAN, MEAN_REFUSED);
        BumpMap x = new BumpMap();
        x.row(0, 0);
        s.found(x, NOUGHT, () -> x.mean(0));
    }
}
