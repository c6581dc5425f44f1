import java.math.BigInteger;

/** Terms: in which order a call is refused, what ROWS, TEXTS, CARTS, DRIVES, ALIKE PLACES and LOTS are. */
final class TermEdges {
    private static final int BAD = BumpMap.BAD, FULL = BumpMap.FULL, STATE = BumpMap.STATE, NONE = BumpMap.NONE;
    private static final int NOTHING = 1, BEYOND = 2, UNLIKE = 3, NOUGHT = 4, SIZE = 5;
    private static final int LEAST = Integer.MIN_VALUE, MOST = Integer.MAX_VALUE;
    private static final String TERMS = "Terms";
    private static final String ORDER = "ANSWERS. Refused is, the first of these that fits, in this order: "
        + "BAD -1 (a number that is none, or not as told), FULL -2, STATE -4 (not now), SPENT -6 (more than told), "
        + "FINDING -3 (finding() tells which), unless a call says so otherwise.";
    private static final String REFUSED = "What is refused changes nothing but finding(), findings().";
    private static final String HELD = "ROWS 0 .. 5 are rows of 0 to 40 ints, TEXTS 0 .. 3 rows of 0 to 80 bytes, "
        + "or missing (at first).";
    private static final String FEELS = "What a ROAD FEELS like: its JOLT by WHEELS, cut; PAVED: 0; "
        + "STONY, STEPS: twice the JOLT, 9 at most, by WHEELS, cut; a FORD: 9; an AVENUE: 1.";
    private static final String DRIVEN = "A ROAD can be driven from either of its ends to the other one; "
        + "STEPS only from the first told to the other one.";
    private static final String FELT_ROW = "A FELT ROW is of numbers 0 .. 9, 16 at most:";
    private static final String ALIKE = "Two PLACES are ALIKE, if each FELT ROW (of any length) "
        + "that can be driven from the one can be so from the other one.";
    private static final String LOTS = "LOTS: a number comes from the one ahead by 48271 times it modulo 2147483647, "
        + "the first from a seed (1 .. 2147483646).";

    // ---- which refusal

    static void badAheadOfState(Sentences s) {
        s.says(TERMS, ORDER);
        BumpMap x = new BumpMap();
        s.refused(x, BAD, () -> x.keep(3));
        s.refused(x, STATE, () -> x.keep(2));
        s.refused(x, BAD, () -> x.lots(0, 1));
        s.refused(x, BAD, () -> x.lots(1, 0));
        s.refused(x, STATE, () -> x.lots(1, 1));
    }

    static void badAheadOfFull(Sentences s) {
        s.says(TERMS, ORDER);
        BumpMap x = Check.landed("n1 r001");
        x.lots(40, 1);
        s.refused(x, BAD, () -> x.go(1));
        s.refused(x, BAD, () -> x.go(-1));
        s.refused(x, FULL, () -> x.go(0));
    }

    static void badAheadOfSize(Sentences s) {
        s.says(TERMS, ORDER);
        BumpMap x = new BumpMap();
        s.refused(x, BAD, () -> x.row(6, -1));
        s.refused(x, BAD, () -> x.text(4, -1));
        s.refused(x, BAD, () -> x.copy(6, 0, 0, 0, -1));
        s.refused(x, BAD, () -> x.copy(0, 0, 6, 0, -1));
        s.due(x.finding(), 0);
    }

    static void badAheadOfNothing(Sentences s) {
        s.says(TERMS, ORDER);
        BumpMap x = Check.landed("n1 r001");
        s.refused(x, BAD, () -> x.feels(0, 1, 0));
        s.refused(x, BAD, () -> x.feels(0, 0, 6));
        s.refused(x, BAD, () -> x.drives(0, 1));
        s.refused(x, BAD, () -> x.ends(0, 1));
        s.refused(x, BAD, () -> x.first(0, 1, 0));
        s.refused(x, BAD, () -> x.first(0, 0, 6));
        s.refused(x, BAD, () -> x.slips(0, 1));
        s.due(x.finding(), 0);
    }

    static void badAheadOfUnlike(Sentences s) {
        s.says(TERMS, ORDER);
        BumpMap x = Check.landed("n1 r001");
        x.row(0, 1);
        x.lay(0, 0, 10);
        s.refused(x, BAD, () -> x.mark(0, 6));
        s.refused(x, BAD, () -> x.mark(1, 1));
        s.refused(x, BAD, () -> x.feels(0, 1, 0));
        s.refused(x, BAD, () -> x.drives(0, 1));
        s.refused(x, BAD, () -> x.first(0, 0, 6));
        s.due(x.finding(), 0);
    }

    static void noneLeavesTheRow(Sentences s) {
        s.says(TERMS, "NONE -9 (as an answer: a ROW that would come anew stays).");
        BumpMap x = Check.landed("n2 r011");
        Check.fill(x, 0, 5);
        Check.fill(x, 1, 7, 8);
        s.refused(x, NONE, () -> x.first(0, 0, 1));
        s.row(x, 1, 7, 8);
        s.refused(x, NONE, () -> x.first(0, 0, 0));
        s.row(x, 0, 5);
        s.refused(x, NONE, () -> x.first(0, 0, 2));
        s.missing(x, 2);
    }

    static void refusedLeavesWhereTheDriveBegan(Sentences s) {
        s.says(TERMS, REFUSED);
        BumpMap x = Check.landed("n3 r012 t121");
        x.text(1, 1);
        x.begin(1);
        x.go(0);
        s.refused(x, BAD, () -> x.begin(3));
        s.refused(x, BAD, () -> x.undo(2));
        s.refused(x, STATE, () -> x.land(1));
        s.refused(x, STATE, () -> x.go(1));
        s.found(x, NOTHING, () -> x.on(0));
        s.due(x.undo(0), 1);
        s.told(x, x.here(), 1, 0);
    }

    static void refusedLeavesWhatIsKept(Sentences s) {
        s.says(TERMS, REFUSED);
        BumpMap x = Check.landed("n3 r012 t121");
        x.text(1, 1);
        x.begin(1);
        x.go(1);
        x.keep(2);
        x.begin(0);
        s.refused(x, BAD, () -> x.keep(3));
        s.refused(x, STATE, () -> x.land(1));
        s.refused(x, BAD, () -> x.on(3));
        s.found(x, NOTHING, () -> x.on(1));
        s.due(x.on(2), 1);
        s.told(x, x.here(), 2, 1);
        s.told(x, x.felt(0), 2, 1);
    }

    static void refusedLeavesWhatWasTold(Sentences s) {
        s.says(TERMS, REFUSED);
        BumpMap x = Check.landed("n2 r012");
        x.row(0, 41);
        x.row(0, 17);
        x.rounds(0, 4);
        x.lay(0, 3, 99);
        x.at(0, 3);
        s.refused(x, BAD, () -> x.rounds(0, 15));
        s.found(x, SIZE, () -> x.drives(0, 0));
        s.found(x, NOTHING, () -> x.drives(1, 0));
        s.found(x, SIZE, () -> x.where(0));
        s.found(x, BEYOND, () -> x.at(0, 17));
        s.refused(x, BAD, () -> x.road(1, 0));
        s.refused(x, BAD, () -> x.from(2));
        s.refused(x, BAD, () -> x.way(0, 2));
        s.due(x.asked(), 99);
        s.due(x.upper(), 1);
    }

    // ---- findings

    static void nothingIsAMissingRow(Sentences s) {
        s.says(TERMS, "FINDINGS: 1 NOTHING (a ROW, a TEXT, a kept DRIVE that is missing),");
        BumpMap x = Check.landed("n2 r012");
        x.row(1, 2);
        s.found(x, NOTHING, () -> x.lay(0, 0, 1));
        s.found(x, NOTHING, () -> x.at(0, 0));
        s.found(x, NOTHING, () -> x.tear(0));
        s.found(x, NOTHING, () -> x.copy(0, 0, 1, 0, 1));
        s.found(x, NOTHING, () -> x.copy(1, 0, 0, 0, 1));
        s.found(x, NOTHING, () -> x.mean(0));
        s.found(x, NOTHING, () -> x.feels(0, 0, 1));
        s.found(x, NOTHING, () -> x.drives(0, 0));
        s.found(x, NOTHING, () -> x.ends(0, 0));
        s.found(x, NOTHING, () -> x.first(0, 0, 1));
        s.found(x, NOTHING, () -> x.where(0));
        s.found(x, NOTHING, () -> x.slips(0, 0));
        s.found(x, NOTHING, () -> x.next(0));
        s.found(x, NOTHING, () -> x.marks(0));
    }

    static void nothingIsAMissingText(Sentences s) {
        s.says(TERMS, "FINDINGS: 1 NOTHING (a ROW, a TEXT, a kept DRIVE that is missing),");
        BumpMap x = Check.landed("n2 r012");
        s.found(x, NOTHING, () -> x.put(1, 0, 110));
        s.found(x, NOTHING, () -> x.fault(2));
        s.found(x, NOTHING, () -> x.land(3));
    }

    static void nothingIsAMissingKeptDrive(Sentences s) {
        s.says(TERMS, "FINDINGS: 1 NOTHING (a ROW, a TEXT, a kept DRIVE that is missing),");
        BumpMap x = Check.landed("n2 r012");
        for (int k = 0; k < 3; k++) {
            int place = k;
            s.found(x, NOTHING, () -> x.on(place));
        }
    }

    static void beyondIsAPlaceThatThereIsNot(Sentences s) {
        s.says(TERMS, "2 BEYOND (a place that there is not),");
        BumpMap x = Check.landed("n2 r012");
        x.row(0, 2);
        x.row(1, 0);
        s.found(x, BEYOND, () -> x.at(0, 2));
        s.found(x, BEYOND, () -> x.at(0, -1));
        s.found(x, BEYOND, () -> x.lay(1, 0, 5));
        s.found(x, BEYOND, () -> x.put(0, 7, 32));
        s.found(x, BEYOND, () -> x.copy(0, 1, 0, 0, 2));
        s.found(x, BEYOND, () -> x.felt(0));
        x.go(0);
        s.told(x, x.felt(0), 2, 0);
        s.found(x, BEYOND, () -> x.felt(1));
    }

    static void unlikeIsARoadOfAnotherKindOrANumberThatIsNone(Sentences s) {
        s.says(TERMS, "3 UNLIKE (a ROAD of another KIND; a number that is none),");
        BumpMap x = Check.landed("n2 r012");
        s.found(x, UNLIKE, () -> x.mark(0, 3));
        Check.fill(x, 0, 1);
        s.found(x, UNLIKE, () -> x.feels(0, 0, 1));
        Check.fill(x, 0, 10);
        s.found(x, UNLIKE, () -> x.marks(0));
    }

    static void noughtIsSharedAmongNone(Sentences s) {
        s.says(TERMS, "4 NOUGHT (shared among none),");
        BumpMap x = new BumpMap();
        x.row(3, 0);
        s.found(x, NOUGHT, () -> x.mean(3));
        x.row(3, 1);
        s.told(x, x.mean(3), 1, 0);
    }

    static void sizeIsFewerThanNoneOrTooMany(Sentences s) {
        s.says(TERMS, "5 SIZE (fewer than none; too many).");
        BumpMap x = Check.landed("n2 r012");
        s.found(x, SIZE, () -> x.row(0, -1));
        s.found(x, SIZE, () -> x.text(0, -1));
        x.row(0, 17);
        s.found(x, SIZE, () -> x.copy(0, 0, 0, 0, -1));
        s.found(x, SIZE, () -> x.ends(0, 0));
        s.found(x, SIZE, () -> x.next(0));
        s.found(x, SIZE, () -> x.marks(0));
    }

    static void setsAreToldByBits(Sentences s) {
        s.says(TERMS, "Sets (of PLACES, of ROADS) are told by bits.");
        BumpMap x = Check.landed("n7" + "r061".repeat(9) + "t061");
        s.told(x, x.from(0), 1023, 64);
        s.told(x, x.from(6), 511, 1);
        s.told(x, x.look(127), 3, 62);
        s.refused(x, BAD, () -> x.look(128));
    }

    // ---- rows and texts

    static void rowsAreSix(Sentences s) {
        s.says(TERMS, HELD);
        BumpMap x = new BumpMap();
        for (int r = 0; r < 6; r++) s.due(x.row(r, 1), 1);
        s.due(x.count(6), 6);
        s.refused(x, BAD, () -> x.row(6, 1));
        s.refused(x, BAD, () -> x.row(-1, 1));
    }

    static void rowsHoldFortyInts(Sentences s) {
        s.says(TERMS, HELD);
        BumpMap x = new BumpMap();
        s.due(x.row(0, 0), 0);
        s.due(x.row(1, 40), 40);
        x.lay(1, 0, LEAST);
        x.lay(1, 39, MOST);
        s.told(x, x.at(1, 0), 1, LEAST);
        s.told(x, x.at(1, 39), 1, MOST);
        s.refused(x, BAD, () -> x.row(1, 41));
        s.told(x, x.at(1, 39), 1, MOST);
    }

    static void textsAreFour(Sentences s) {
        s.says(TERMS, HELD);
        BumpMap x = new BumpMap();
        for (int t = 0; t < 4; t++) s.due(x.text(t, 1), 1);
        s.due(x.count(7), 4);
        s.refused(x, BAD, () -> x.text(4, 1));
        s.refused(x, BAD, () -> x.text(-1, 1));
    }

    static void textsHoldEightyBytes(Sentences s) {
        s.says(TERMS, HELD);
        BumpMap x = new BumpMap();
        s.due(x.text(0, 0), 0);
        s.due(x.text(1, 80), 80);
        s.due(x.put(1, 0, -128), 1032);
        s.due(x.put(1, 79, 127), 1032);
        s.due(x.put(1, 0, 0), 872);
        s.due(x.put(1, 79, 0), 1127);
        s.refused(x, BAD, () -> x.text(1, 81));
    }

    static void missingAtFirst(Sentences s) {
        s.says(TERMS, HELD);
        BumpMap x = new BumpMap();
        for (int r = 0; r < 6; r++) s.missing(x, r);
        for (int t = 0; t < 4; t++) {
            int text = t;
            s.found(x, NOTHING, () -> x.fault(text));
        }
        s.due(x.count(6), 0);
        s.due(x.count(7), 0);
    }

    // ---- carts, feeling, driving

    static void aCartHasOneToThreeWheels(Sentences s) {
        s.says(TERMS, "A CART has 1 .. 3 WHEELS (1 at first).");
        BumpMap x = new BumpMap();
        s.due(x.wheels(3), 1);
        s.due(x.wheels(1), 3);
        s.due(x.wheels(2), 1);
        s.refused(x, BAD, () -> x.wheels(0));
        s.refused(x, BAD, () -> x.wheels(4));
        s.due(x.wheels(2), 2);
    }

    static void aRoadFeelsLikeItsJoltByWheels(Sentences s) {
        s.says(TERMS, FEELS);
        feelsLike(s, 'r', "0123456789", "0011223344", "0001112223");
    }

    static void pavedFeelsLikeNought(Sentences s) {
        s.says(TERMS, FEELS);
        feelsLike(s, 'p', "0000000000", "0000000000", "0000000000");
    }

    static void stonyFeelsLikeTwiceItsJoltNineAtMost(Sentences s) {
        s.says(TERMS, FEELS);
        feelsLike(s, 's', "0246899999", "0123444444", "0012233333");
    }

    static void stepsFeelLikeTwiceTheirJoltNineAtMost(Sentences s) {
        s.says(TERMS, FEELS);
        feelsLike(s, 't', "0246899999", "0123444444", "0012233333");
    }

    static void aFordFeelsLikeNineByAnyWheels(Sentences s) {
        s.says(TERMS, FEELS);
        feelsLike(s, 'f', "9999999999", "9999999999", "9999999999");
    }

    static void anAvenueFeelsLikeOneByAnyWheels(Sentences s) {
        s.says(TERMS, FEELS);
        feelsLike(s, 'v', "1111111111", "1111111111", "1111111111");
    }

    /** Ten ROADS of a letter with JOLTS 0 to 9: what each feels like by 1, 2, 3 WHEELS. */
    private static void feelsLike(Sentences s, char letter, String... byWheels) {
        StringBuilder land = new StringBuilder("n1");
        for (int jolt = 0; jolt < 10; jolt++) land.append(letter).append("00").append(jolt);
        BumpMap x = Check.landed(land.toString());
        for (int w = 1; w <= 3; w++) {
            x.wheels(w);
            for (int i = 0; i < 10; i++) s.told(x, x.road(i, 4), 1, byWheels[w - 1].charAt(i) - '0');
        }
        x.wheels(1);
        for (int i = 0; i < 10; i++) s.due(x.go(i), byWheels[0].charAt(i) - '0');
    }

    static void aRoadIsDrivenFromEitherEnd(Sentences s) {
        s.says(TERMS, DRIVEN);
        for (char letter : "rpsfv".toCharArray()) {
            BumpMap x = Check.landed("n3 " + letter + "020");
            x.go(0);
            s.told(x, x.here(), 2, 1);
            x.go(0);
            s.told(x, x.here(), 0, 2);
            s.told(x, x.from(2), 1, 1);
            s.told(x, x.from(1), 0, 0);
        }
    }

    static void stepsAreDrivenFromTheFirstToldAlone(Sentences s) {
        s.says(TERMS, DRIVEN);
        BumpMap x = Check.landed("n3 t200");
        s.refused(x, STATE, () -> x.go(0));
        s.told(x, x.from(0), 0, 0);
        s.told(x, x.from(2), 1, 1);
        x.begin(2);
        s.told(x, x.go(0), 0, 0);
        s.refused(x, STATE, () -> x.go(0));
    }

    static void aRoadWhoseEndsAreOnePlace(Sentences s) {
        s.says(TERMS, DRIVEN);
        for (char letter : "rpsftv".toCharArray()) {
            BumpMap x = Check.landed("n2 " + letter + "110");
            s.refused(x, STATE, () -> x.go(0));
            s.due(x.begin(1), 1);
            x.go(0);
            x.go(0);
            s.told(x, x.here(), 1, 2);
            s.told(x, x.from(1), 1, 2);
        }
    }

    static void aDriveIsBegunAtPlaceNoughtWithALand(Sentences s) {
        s.says(TERMS, "A DRIVE (begun at PLACE 0 with a LAND) is ROADS driven one behind the other, "
            + "each from where the one ahead led.");
        BumpMap x = Check.landed("n3 r101 t121");
        s.told(x, x.here(), 0, 0);
        s.refused(x, STATE, () -> x.go(1));
        s.told(x, x.go(0), 1, 1);
        s.told(x, x.go(1), 2, 2);
        s.refused(x, STATE, () -> x.go(0));
        s.told(x, x.here(), 2, 2);
    }

    // ---- felt rows

    static void feltRowsAreOfFigures(Sentences s) {
        s.says(TERMS, FELT_ROW);
        BumpMap x = Check.landed("n2 r010 f010");
        Check.fill(x, 0, 0, 9);
        s.due(x.ends(0, 0), 1);
        Check.fill(x, 1, -1);
        s.found(x, UNLIKE, () -> x.ends(1, 0));
        Check.fill(x, 1, 10);
        s.found(x, UNLIKE, () -> x.ends(1, 0));
        Check.fill(x, 1, 9, 0, -1);
        s.found(x, UNLIKE, () -> x.where(1));
        Check.fill(x, 1, 10, 0, 9);
        s.found(x, UNLIKE, () -> x.slips(1, 0));
    }

    static void feltRowsAreOfSixteenAtMost(Sentences s) {
        s.says(TERMS, FELT_ROW);
        BumpMap x = Check.landed("n2 r010");
        x.row(0, 16);
        s.due(x.ends(0, 0), 1);
        x.row(0, 17);
        s.found(x, SIZE, () -> x.ends(0, 0));
        x.row(0, 40);
        s.found(x, SIZE, () -> x.ends(0, 0));
        x.row(0, 0);
        s.due(x.ends(0, 0), 1);
    }

    static void aDriveFeelsSoByAsManyRoads(Sentences s) {
        s.says(TERMS, "a DRIVE from a PLACE FEELS so, if its ROADS, as many, feel like these, one behind the other.");
        BumpMap x = Check.landed("n3 t012 t123");
        Check.fill(x, 0, 4, 6);
        s.due(x.ends(0, 0), 4);
        Check.fill(x, 0, 4);
        s.due(x.ends(0, 0), 2);
        x.row(0, 0);
        s.due(x.ends(0, 0), 1);
        Check.fill(x, 0, 4, 6, 4);
        s.due(x.ends(0, 0), 0);
        Check.fill(x, 0, 6, 4);
        s.due(x.ends(0, 0), 0);
    }

    // ---- alike, lots

    static void alikeIsAskedOfRowsOfAnyLength(Sentences s) {
        s.says(TERMS, ALIKE);
        // 2 and 6 let drive the same rows of 16 numbers, but not of 17.
        BumpMap x = Check.landed("n7t531t250r630r340t160r412t010r650t500r052");
        s.told(x, x.apart(2, 6), 17, 6);
        s.told(x, x.apart(6, 2), 17, 6);
        s.due(x.unlike(), 7);
    }

    static void alikeIsEachToItself(Sentences s) {
        s.says(TERMS, ALIKE);
        BumpMap x = Check.landed("n7t531t250r630r340t160r412t010r650t500r052");
        for (int p = 0; p < 7; p++) {
            int place = p;
            s.refused(x, NONE, () -> x.apart(place, place));
        }
    }

    static void alikeMayLeadElsewhereByOtherRoads(Sentences s) {
        s.says(TERMS, ALIKE);
        // From 0 by two ROADS to places that go on by 2 or by 4; from 3 by one to a place that goes on by both.
        BumpMap x = Check.landed("n7 t010 t020 t161 t262 t340 t461 t462");
        s.refused(x, NONE, () -> x.apart(0, 3));
        s.told(x, x.apart(1, 4), 1, 4);
        s.told(x, x.unlike(), 5, 9);
    }

    static void alikeAreTwoFromWhichNoneCanBeDriven(Sentences s) {
        s.says(TERMS, ALIKE);
        BumpMap x = Check.landed("n3 t011");
        s.refused(x, NONE, () -> x.apart(1, 2));
        s.told(x, x.apart(0, 2), 1, 0);
    }

    static void lotsComeBy48271(Sentences s) {
        s.says(TERMS, LOTS);
        for (int seed : new int[] {1, 2, 48271, 1073741824, 2147483645, 2147483646}) {
            BumpMap x = tenRounds();
            s.due(x.lots(40, seed), 40);
            BigInteger number = BigInteger.valueOf(seed);
            for (int k = 0; k < 40; k++) {
                number = number.multiply(BigInteger.valueOf(48271)).mod(BigInteger.valueOf(2147483647));
                int i = number.mod(BigInteger.TEN).intValue();
                s.told(x, x.felt(k), i, i);
            }
        }
    }

    static void lotsFromSeedOne(Sentences s) {
        s.says(TERMS, LOTS);
        BumpMap x = tenRounds();
        x.lots(5, 1);
        // 48271, 182605794, 1291394886, 1914720637, 2078669041
        int[] want = {1, 4, 6, 7, 1};
        for (int k = 0; k < 5; k++) s.told(x, x.felt(k), want[k], want[k]);
    }

    static void lotsHaveNoOtherSeeds(Sentences s) {
        s.says(TERMS, LOTS);
        BumpMap x = tenRounds();
        s.refused(x, BAD, () -> x.lots(1, 0));
        s.refused(x, BAD, () -> x.lots(1, -1));
        s.refused(x, BAD, () -> x.lots(1, MOST));
        s.refused(x, BAD, () -> x.lots(1, LEAST));
    }

    private static BumpMap tenRounds() {
        return Check.landed("n1r000r001r002r003r004r005r006r007r008r009");
    }

    // ---- how long

    static void anObjectAnswers512Calls(Sentences s) {
        s.says("What it is", "An object is used for at most 512 calls after it has been made; "
            + "what later calls answer is free.");
        BumpMap x = new BumpMap();
        x.row(0, 1);
        for (int k = 2; k <= 511; k++) x.lay(0, 0, k);
        s.due(x.asked(), 510);
        BumpMap y = new BumpMap();
        for (int k = 1; k <= 511; k++) y.row(0, -1);
        s.due(y.findings(SIZE), 511);
    }
}
