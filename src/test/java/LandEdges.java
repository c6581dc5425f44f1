import java.util.function.IntUnaryOperator;

/** The language of a LAND (Terms), its TEXTS and FAULTS: promises 8 to 11. */
final class LandEdges {
    private static final int BAD = BumpMap.BAD, STATE = BumpMap.STATE, NONE = BumpMap.NONE;
    private static final int NOTHING = 1, BEYOND = 2, SIZE = 5;
    private static final int LEAST = Integer.MIN_VALUE, MOST = Integer.MAX_VALUE;
    private static final String TERMS = "Terms", TEXT = "Promise 8", PUT = "Promise 9", FAULT = "Promise 10",
        LAND = "Promise 11";
    private static final String BLANKS = "blanks (32) ahead, between, behind as many as wanted, none within items.";
    private static final String HEAD = "The first item is n (110) and how many PLACES "
        + "(1 .. 7, one figure; they are 0, 1, ..);";
    private static final String ROADS = "then ROADS (10 at most, none, too; 0, 1, .. as they come):";
    private static final String ITEM = "a letter, the PLACE at its one end, that at its other end (perhaps the same), "
        + "its JOLT (0 .. 9), one figure each.";
    private static final String FAULTS = "A FAULT is the first place at which it can't go on so (a letter, a figure "
        + "that is none such: its place; an eleventh ROAD: its letter; the TEXT's size, if its end comes too early, "
        + "or there are blanks alone).";
    private static final String KINDS = "KINDS of ROADS and letters: 0 ROAD (r, 114), 1 PAVED (p, 112; a ROAD), "
        + "2 STONY (s, 115; a ROAD), 3 FORD (f, 102; a ROAD), 4 STEPS (t, 116; a STONY), 5 AVENUE (v, 118; a PAVED).";
    private static final String BLANK_TEXT = "A TEXT is there with n blanks: n.";
    private static final String TEXT_REFUSED = "BAD: also n above 80; SIZE: below 0.";
    private static final String BYTE = "Byte i of a TEXT is v, cut to a byte (-128 .. 127): what it was, and 1000 more.";
    private static final String PUT_REFUSED = "BAD; NOTHING; BEYOND.";
    private static final String ANEW = "A LAND by a TEXT (anew: a DRIVE begun at PLACE 0, no kept DRIVES; WHEELS stay): "
        + "how many ROADS.";
    private static final String TEN = "n2" + "r010".repeat(10);

    private static int faultOf(String text) {
        BumpMap x = new BumpMap();
        Check.write(x, 0, text);
        return x.fault(0);
    }

    private static int placesOf(String text) {
        return Check.landed(text).count(0);
    }

    /** Each byte at one place of a TEXT: the FAULT must be as told. */
    private static void eachByte(Sentences s, String text, int place, IntUnaryOperator fault) {
        for (int v = -128; v <= 127; v++) {
            BumpMap x = new BumpMap();
            Check.write(x, 0, text);
            x.put(0, place, v);
            s.due(x.fault(0), fault.applyAsInt(v));
            s.due(x.land(0) == STATE ? 1 : 0, fault.applyAsInt(v) == NONE ? 0 : 1);
        }
    }

    private static boolean isLetter(int v) {
        return v == 114 || v == 112 || v == 115 || v == 102 || v == 116 || v == 118;
    }

    // ---- blanks

    static void noLandAtFirst(Sentences s) {
        s.says(TERMS, "A LAND (without PLACES, ROADS at first) is a TEXT:");
        BumpMap x = new BumpMap();
        s.due(x.count(0), 0);
        s.due(x.count(1), 0);
        s.refused(x, BAD, () -> x.from(0));
        s.refused(x, BAD, () -> x.begin(0));
        s.refused(x, BAD, () -> x.road(0, 0));
        s.refused(x, BAD, () -> x.go(0));
        s.refused(x, STATE, () -> x.here());
    }

    static void noBlanksAtAll(Sentences s) {
        s.says(TERMS, BLANKS);
        s.due(faultOf("n2r010p101"), NONE);
        s.due(Check.landed("n2r010p101").count(1), 2);
        s.due(faultOf("n1"), NONE);
    }

    static void asManyBlanksAsTheTextHolds(Sentences s) {
        s.says(TERMS, BLANKS);
        String wide = " ".repeat(30) + "n2" + " ".repeat(20) + "r011" + " ".repeat(10) + "s102" + " ".repeat(10);
        s.due(wide.length(), 80);
        s.due(faultOf(wide), NONE);
        s.due(Check.landed(wide).count(1), 2);
        s.due(faultOf(" ".repeat(78) + "n1"), NONE);
        s.due(faultOf("n1" + " ".repeat(78)), NONE);
    }

    static void noBlanksWithinItems(Sentences s) {
        s.says(TERMS, BLANKS);
        s.due(faultOf("n 2 r010"), 1);
        s.due(faultOf("n2 r 010"), 4);
        s.due(faultOf("n2 r0 10"), 5);
        s.due(faultOf("n2 r01 0"), 6);
    }

    static void noOtherByteIsABlankAhead(Sentences s) {
        s.says(TERMS, BLANKS);
        eachByte(s, " n2", 0, v -> v == 32 ? NONE : v == 110 ? 1 : 0);
    }

    static void noOtherByteIsABlankBetween(Sentences s) {
        s.says(TERMS, BLANKS);
        eachByte(s, "n2 r010", 2, v -> v == 32 ? NONE : isLetter(v) ? 3 : 2);
    }

    static void noOtherByteIsABlankBehind(Sentences s) {
        s.says(TERMS, BLANKS);
        eachByte(s, "n2 r010 ", 7, v -> v == 32 ? NONE : isLetter(v) ? 8 : 7);
    }

    // ---- items

    static void theFirstItemBeginsWithN(Sentences s) {
        s.says(TERMS, HEAD);
        eachByte(s, "n2 r019", 0, v -> v == 110 ? NONE : v == 32 ? 1 : 0);
    }

    static void placesAreOneToSeven(Sentences s) {
        s.says(TERMS, HEAD);
        eachByte(s, "n1", 1, v -> v >= '1' && v <= '7' ? NONE : 1);
    }

    static void placesAreOneFigure(Sentences s) {
        s.says(TERMS, HEAD);
        s.due(faultOf("n12"), 2);
        s.due(faultOf("n07"), 1);
        s.due(faultOf("n1 2"), 3);
        s.due(faultOf("n-1"), 1);
    }

    static void placesAreNumberedFromNought(Sentences s) {
        s.says(TERMS, HEAD);
        for (int n = 1; n <= 7; n++) {
            BumpMap x = Check.landed("n" + n);
            s.due(x.count(0), n);
            int beyond = n;
            s.due(x.begin(0), 0);
            s.due(x.begin(n - 1), 0);
            s.refused(x, BAD, () -> x.begin(beyond));
        }
    }

    static void theFirstItemComesOnce(Sentences s) {
        s.says(TERMS, HEAD);
        s.due(faultOf("n2 n2"), 3);
        s.due(faultOf("r010 n2"), 0);
    }

    static void noRoads(Sentences s) {
        s.says(TERMS, ROADS);
        BumpMap x = new BumpMap();
        Check.write(x, 0, "n3");
        s.due(x.fault(0), NONE);
        s.due(x.land(0), 0);
        s.refused(x, BAD, () -> x.road(0, 0));
    }

    static void tenRoadsAsTheyCome(Sentences s) {
        s.says(TERMS, ROADS);
        BumpMap x = Check.landed("n2r010r011r012r013r014r015r016r017r018r019");
        s.due(x.count(1), 10);
        for (int i = 0; i < 10; i++) s.told(x, x.road(i, 3), 1, i);
        s.refused(x, BAD, () -> x.road(10, 3));
    }

    static void noEleventhRoad(Sentences s) {
        s.says(TERMS, ROADS);
        s.due(faultOf(TEN), NONE);
        s.due(faultOf(TEN + "r010"), 42);
        s.due(Check.landed(TEN + "r010").count(1), 0);
    }

    static void eachLetterAndNoOther(Sentences s) {
        s.says(TERMS, ITEM);
        eachByte(s, "n2 r019", 3, v -> isLetter(v) ? NONE : v == 32 ? 4 : 3);
    }

    static void eachFigureOfTheOneEnd(Sentences s) {
        s.says(TERMS, ITEM);
        eachByte(s, "n2 r019", 4, v -> v == '0' || v == '1' ? NONE : 4);
        eachByte(s, "n7 r019", 4, v -> v >= '0' && v <= '6' ? NONE : 4);
    }

    static void eachFigureOfTheOtherEnd(Sentences s) {
        s.says(TERMS, ITEM);
        eachByte(s, "n1 r000", 5, v -> v == '0' ? NONE : 5);
        eachByte(s, "n7 r019", 5, v -> v >= '0' && v <= '6' ? NONE : 5);
    }

    static void eachFigureOfTheJolt(Sentences s) {
        s.says(TERMS, ITEM);
        eachByte(s, "n2 r019", 6, v -> v >= '0' && v <= '9' ? NONE : 6);
    }

    static void endsAreBelowHowManyPlaces(Sentences s) {
        s.says(TERMS, ITEM);
        for (int n = 1; n <= 7; n++) {
            s.due(faultOf("n" + n + " t" + (n - 1) + (n - 1) + "9"), NONE);
            s.due(faultOf("n" + n + " t" + n + "09"), 4);
            s.due(faultOf("n" + n + " t0" + n + "9"), 5);
        }
    }

    static void oneFigureEach(Sentences s) {
        s.says(TERMS, ITEM);
        s.due(faultOf("n2 r0112"), 7);
        s.due(faultOf("n2 r0010"), 7);
        s.due(faultOf("n2 r01-1"), 6);
    }

    static void theLettersOfKinds(Sentences s) {
        s.says(TERMS, KINDS);
        int[] letters = {114, 112, 115, 102, 116, 118};
        for (int kind = 0; kind < 6; kind++) {
            BumpMap x = new BumpMap();
            Check.write(x, 0, "n1 r000");
            x.put(0, 3, letters[kind]);
            s.due(x.land(0), 1);
            s.told(x, x.road(0, 0), 1, kind);
        }
    }

    // ---- faults

    static void aFaultIsTheFirstOfSeveral(Sentences s) {
        s.says(TERMS, FAULTS);
        s.due(faultOf("n2 x010 y010"), 3);
        s.due(faultOf("n2 r210 x"), 4);
        s.due(faultOf("n9 r010"), 1);
        s.due(faultOf("m9"), 0);
        s.due(faultOf("n2 r010 r011 R012"), 13);
    }

    static void anEleventhRoadIsAFaultAtItsLetter(Sentences s) {
        s.says(TERMS, FAULTS);
        s.due(faultOf(TEN + "   r010"), 45);
        s.due(faultOf(TEN + "v"), 42);
        s.due(faultOf(TEN + " t99"), 43);
        s.due(faultOf(TEN + "      "), NONE);
        s.due(faultOf(TEN + " x"), 43);
    }

    static void theSizeIsTheFaultIfTheEndComesTooEarly(Sentences s) {
        s.says(TERMS, FAULTS);
        s.due(faultOf("n"), 1);
        s.due(faultOf("   n"), 4);
        s.due(faultOf("n2r"), 3);
        s.due(faultOf("n2r0"), 4);
        s.due(faultOf("n2r01"), 5);
        s.due(faultOf(TEN.substring(0, 41)), 41);
        s.due(faultOf(" ".repeat(77) + "n2r"), 80);
        s.due(faultOf(" ".repeat(79) + "n"), 80);
    }

    static void theSizeIsTheFaultOfBlanksAlone(Sentences s) {
        s.says(TERMS, FAULTS);
        for (int n : new int[] {0, 1, 2, 79, 80}) {
            BumpMap x = new BumpMap();
            x.text(0, n);
            s.due(x.fault(0), n);
            s.refused(x, STATE, () -> x.land(0));
        }
    }

    static void aBlankAtTheEndIsAFigureThatIsNone(Sentences s) {
        s.says(TERMS, FAULTS);
        s.due(faultOf("n "), 1);
        s.due(faultOf("n2 r01 "), 6);
    }

    // ---- promise 8

    static void textOfNoneToEighty(Sentences s) {
        s.says(TEXT, BLANK_TEXT);
        BumpMap x = new BumpMap();
        s.due(x.text(0, 0), 0);
        s.found(x, BEYOND, () -> x.put(0, 0, 1));
        s.due(x.text(3, 80), 80);
        for (int i = 0; i < 80; i++) s.due(x.put(3, i, 110), 1032);
        s.found(x, BEYOND, () -> x.put(3, 80, 1));
    }

    static void textAnewIsOfBlanksAgain(Sentences s) {
        s.says(TEXT, BLANK_TEXT);
        BumpMap x = new BumpMap();
        Check.write(x, 0, "n1r000");
        s.due(x.text(0, 2), 2);
        s.due(x.put(0, 0, 1), 1032);
        s.due(x.put(0, 1, 1), 1032);
        s.found(x, BEYOND, () -> x.put(0, 2, 1));
        s.due(x.text(0, 6), 6);
        for (int i = 0; i < 6; i++) s.due(x.put(0, i, 1), 1032);
    }

    static void textBad(Sentences s) {
        s.says(TEXT, TEXT_REFUSED);
        BumpMap x = new BumpMap();
        x.text(0, 3);
        for (int t : new int[] {-1, 4, LEAST, MOST}) s.refused(x, BAD, () -> x.text(t, 3));
        for (int n : new int[] {81, 82, MOST}) s.refused(x, BAD, () -> x.text(0, n));
        for (int n : new int[] {-1, 81}) s.refused(x, BAD, () -> x.text(4, n));
    }

    static void textSize(Sentences s) {
        s.says(TEXT, TEXT_REFUSED);
        BumpMap x = new BumpMap();
        x.text(0, 3);
        for (int n : new int[] {-1, -80, LEAST}) s.found(x, SIZE, () -> x.text(0, n));
        s.found(x, SIZE, () -> x.text(1, -1));
        s.found(x, NOTHING, () -> x.fault(1));
    }

    // ---- promise 9

    static void putIsCutToAByte(Sentences s) {
        s.says(PUT, BYTE);
        BumpMap x = new BumpMap();
        x.text(1, 1);
        int[] put = {127, 128, 255, 256, -128, -129, LEAST, MOST, 0};
        int[] was = {32, 127, -128, -1, 0, -128, 127, 0, -1};
        for (int k = 0; k < put.length; k++) s.due(x.put(1, 0, put[k]), 1000 + was[k]);
        s.due(x.put(1, 0, 0), 1000);
    }

    static void putAtTheFirstAndLastByte(Sentences s) {
        s.says(PUT, BYTE);
        BumpMap x = new BumpMap();
        x.text(0, 80);
        s.due(x.put(0, 0, 5), 1032);
        s.due(x.put(0, 79, 6), 1032);
        s.due(x.put(0, 1, 7), 1032);
        s.due(x.put(0, 78, 8), 1032);
        s.due(x.put(0, 0, 0), 1005);
        s.due(x.put(0, 79, 0), 1006);
    }

    static void putBad(Sentences s) {
        s.says(PUT, PUT_REFUSED);
        BumpMap x = new BumpMap();
        x.text(0, 1);
        for (int t : new int[] {-1, 4, LEAST, MOST}) s.refused(x, BAD, () -> x.put(t, 0, 1));
        s.refused(x, BAD, () -> x.put(4, -1, 1));
    }

    static void putNothing(Sentences s) {
        s.says(PUT, PUT_REFUSED);
        BumpMap x = new BumpMap();
        for (int t = 0; t < 4; t++) {
            int text = t;
            s.found(x, NOTHING, () -> x.put(text, 0, 1));
        }
        s.found(x, NOTHING, () -> x.put(0, -1, 1));
        s.found(x, NOTHING, () -> x.put(0, 80, 1));
    }

    static void putBeyond(Sentences s) {
        s.says(PUT, PUT_REFUSED);
        BumpMap x = new BumpMap();
        x.text(0, 0);
        x.text(1, 80);
        for (int i : new int[] {0, -1, 1}) s.found(x, BEYOND, () -> x.put(0, i, 1));
        for (int i : new int[] {-1, 80, 81, LEAST, MOST}) s.found(x, BEYOND, () -> x.put(1, i, 1));
    }

    // ---- promise 10

    static void faultNone(Sentences s) {
        s.says(FAULT, "A FAULT of a TEXT; NONE: there is none.");
        BumpMap x = new BumpMap();
        Check.write(x, 0, "n1");
        s.refused(x, NONE, () -> x.fault(0));
        s.due(x.count(0), 0);
        x.put(0, 1, '8');
        s.due(x.fault(0), 1);
        x.text(3, 0);
        s.due(x.fault(3), 0);
    }

    static void faultLeavesTheLand(Sentences s) {
        s.says(FAULT, "A FAULT of a TEXT; NONE: there is none.");
        BumpMap x = Check.landed("n3 r012 r123");
        Check.write(x, 1, "n1 t001");
        Check.write(x, 2, "n7 r0");
        x.go(0);
        s.refused(x, NONE, () -> x.fault(1));
        s.refused(x, 5, () -> x.fault(2));
        s.told(x, x.go(1), 3, 2);
    }

    static void faultBad(Sentences s) {
        s.says(FAULT, "BAD; NOTHING.");
        BumpMap x = new BumpMap();
        for (int t : new int[] {-1, 4, LEAST, MOST}) s.refused(x, BAD, () -> x.fault(t));
    }

    static void faultNothing(Sentences s) {
        s.says(FAULT, "BAD; NOTHING.");
        BumpMap x = new BumpMap();
        for (int t = 0; t < 4; t++) {
            int text = t;
            s.found(x, NOTHING, () -> x.fault(text));
        }
    }

    // ---- promise 11

    static void landOfNoneToTenRoads(Sentences s) {
        s.says(LAND, ANEW);
        for (int n = 0; n <= 10; n++) {
            BumpMap x = new BumpMap();
            Check.write(x, n % 4, "n2" + "r010".repeat(n));
            s.due(x.land(n % 4), n);
            s.due(x.count(1), n);
        }
    }

    static void landAnewBeginsADrive(Sentences s) {
        s.says(LAND, ANEW);
        BumpMap x = Check.landed("n2 r012");
        x.begin(1);
        x.go(0);
        x.go(0);
        s.due(x.land(0), 1);
        s.told(x, x.here(), 0, 0);
        s.due(x.undo(0), 0);
        s.told(x, x.here(), 0, 0);
        s.found(x, BEYOND, () -> x.felt(0));
    }

    static void landAnewHasNoKeptDrives(Sentences s) {
        s.says(LAND, ANEW);
        BumpMap x = Check.landed("n2 r012");
        for (int k = 0; k < 3; k++) x.keep(k);
        s.due(x.count(5), 3);
        x.land(0);
        s.due(x.count(5), 0);
        for (int k = 0; k < 3; k++) {
            int place = k;
            s.found(x, NOTHING, () -> x.on(place));
        }
    }

    static void landAnewLeavesWheels(Sentences s) {
        s.says(LAND, ANEW);
        BumpMap x = Check.landed("n2 r017");
        x.wheels(3);
        x.land(0);
        s.told(x, x.road(0, 4), 1, 2);
        s.due(x.wheels(1), 3);
        BumpMap y = new BumpMap();
        y.wheels(2);
        Check.write(y, 0, "n2 r017");
        y.land(0);
        s.told(y, y.road(0, 4), 1, 3);
    }

    static void landAnewMayBeSmaller(Sentences s) {
        s.says(LAND, ANEW);
        BumpMap x = Check.landed("n7 r561 t012 v229");
        Check.write(x, 1, "n1");
        s.due(x.land(1), 0);
        s.due(x.count(0), 1);
        for (int what = 1; what <= 5; what++) s.due(x.count(what), 0);
        s.refused(x, BAD, () -> x.from(1));
        s.told(x, x.unlike(), 1, 1);
        s.due(x.land(0), 3);
        s.told(x, x.from(5), 1, 64);
    }

    static void landLeavesRowsTextsAndWhatWasPaved(Sentences s) {
        s.says(LAND, ANEW);
        BumpMap x = Check.landed("n2 r017");
        Check.fill(x, 2, 4, 5);
        x.pave(0);
        x.land(0);
        s.told(x, x.road(0, 0), 1, 0);
        s.told(x, x.road(0, 4), 1, 7);
        s.row(x, 2, 4, 5);
        s.due(x.count(7), 1);
    }

    static void landBad(Sentences s) {
        s.says(LAND, "BAD; NOTHING; STATE: a FAULT.");
        BumpMap x = Check.landed("n2 r012");
        for (int t : new int[] {-1, 4, LEAST, MOST}) s.refused(x, BAD, () -> x.land(t));
    }

    static void landNothing(Sentences s) {
        s.says(LAND, "BAD; NOTHING; STATE: a FAULT.");
        BumpMap x = Check.landed("n2 r012");
        for (int t = 1; t < 4; t++) {
            int text = t;
            s.found(x, NOTHING, () -> x.land(text));
        }
    }

    static void landState(Sentences s) {
        s.says(LAND, "BAD; NOTHING; STATE: a FAULT.");
        BumpMap x = Check.landed("n2 r012");
        x.go(0);
        x.keep(0);
        x.text(1, 0);
        Check.write(x, 2, TEN + "r010");
        Check.write(x, 3, "n3 r012 r12");
        for (int t = 1; t < 4; t++) {
            int text = t;
            s.refused(x, STATE, () -> x.land(text));
        }
        s.due(placesOf("n8"), 0);
        s.told(x, x.here(), 1, 1);
        s.due(x.on(0), 1);
    }

    static void landStateBehindNothing(Sentences s) {
        s.says(LAND, "(STATE behind NOTHING.)");
        BumpMap x = new BumpMap();
        s.found(x, NOTHING, () -> x.land(0));
        x.text(0, 0);
        s.refused(x, STATE, () -> x.land(0));
        s.due(x.finding(), NOTHING);
        s.due(x.findings(NOTHING), 1);
    }
}
