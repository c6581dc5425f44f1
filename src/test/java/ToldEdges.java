import java.util.ArrayList;
import java.util.List;
import java.util.function.ToLongFunction;

/** Promises 42 to 48, and the constants: what is told behind a call, counts, findings, the digest. */
final class ToldEdges {
    private static final int BAD = BumpMap.BAD, FULL = BumpMap.FULL, STATE = BumpMap.STATE, NONE = BumpMap.NONE;
    private static final int NOTHING = 1, BEYOND = 2, UNLIKE = 3, NOUGHT = 4, SIZE = 5;
    private static final int LEAST = Integer.MIN_VALUE, MOST = Integer.MAX_VALUE;
    private static final String ASKED = "Promise 42", UPPER = "Promise 43", LOWER = "Promise 44", COUNT = "Promise 45",
        FINDING = "Promise 46", FINDINGS = "Promise 47", DIGEST = "Promise 48";
    private static final String LATEST = "What the latest lay(), at(), mean(), road(), from(), go(), here(), felt(), "
        + "feels(), where(), slips(), next(), apart(), unlike(), look(), marks(), way(), tour(), best() "
        + "that was not refused (nor NONE) told; 0 before.";
    private static final String UPPER_ONE = "The upper number of what was told last; 0 before.";
    private static final String LOWER_ONE = "Its lower number; 1 before.";
    private static final String COUNTS = "0 PLACES, 1 ROADS, 2 ROADS driven, 3 PAVED ones (AVENUES, too), "
        + "4 STONY ones (STEPS, too), 5 kept DRIVES, 6 ROWS, 7 TEXTS that are there.";
    private static final String HOW_OFTEN = "How often a FINDING (1 .. 5) was answered.";
    private static final String OF_ALL = "h = 17; then h = 31 h + v for each v (of a call that tells by asked(): "
        + "what it tells, not the 1 that it answers; asked() stays): count() 0 to 7; WHEELS; of each ROAD road() 0 to 4; "
        + "where the CART is (0 without PLACES); of each ROAD driven which, what it felt like; of each kept DRIVE "
        + "how many ROADS (-1: missing); of each ROW its size (-1: missing) and places, of each TEXT likewise.";
    private static final String LAND = "n3 r012 t121 s225";

    // ---- the public face

    static void constants(Sentences s) {
        s.says("The public face", "public static final int BAD = -1, FULL = -2, FINDING = -3, STATE = -4, SPENT = -6, "
            + "NONE = -9;");
        s.due(BumpMap.BAD, -1);
        s.due(BumpMap.FULL, -2);
        s.due(BumpMap.FINDING, -3);
        s.due(BumpMap.STATE, -4);
        s.due(BumpMap.SPENT, -6);
        s.due(BumpMap.NONE, -9);
    }

    // ---- promise 42

    /** A LAND, a DRIVE of ROAD 0 back and forth, ROW 0 of 2, ROW 1 of 77, which asked() tells. */
    private static BumpMap asked77() {
        BumpMap x = Check.landed(LAND);
        x.go(0);
        x.go(0);
        Check.fill(x, 0, 2);
        Check.fill(x, 1, 77);
        x.row(2, 1);
        x.keep(0);
        x.at(1, 0);
        return x;
    }

    private static void tells(Sentences s, ToLongFunction<BumpMap> call, long answer, int asked) {
        BumpMap x = asked77();
        s.due(x.asked(), 77);
        s.told(x, call.applyAsLong(x), answer, asked);
    }

    static void askedNoughtBefore(Sentences s) {
        s.says(ASKED, LATEST);
        BumpMap x = new BumpMap();
        s.due(x.asked(), 0);
        s.due(x.asked(), 0);
    }

    static void askedOfRowsAndRoads(Sentences s) {
        s.says(ASKED, LATEST);
        tells(s, x -> x.lay(0, 0, 5), 1, 2);
        tells(s, x -> x.at(0, 0), 1, 2);
        tells(s, x -> x.mean(0), 1, 2);
        tells(s, x -> x.road(2, 3), 1, 5);
        tells(s, x -> x.from(1), 3, 5);
    }

    static void askedOfDrives(Sentences s) {
        s.says(ASKED, LATEST);
        tells(s, x -> x.go(0), 2, 1);
        tells(s, x -> x.here(), 0, 2);
        tells(s, x -> x.felt(1), 2, 0);
        tells(s, x -> x.feels(2, 0, 3), 1, 1);
        tells(s, x -> x.where(0), 7, 3);
        tells(s, x -> x.slips(0, 1), 0, 0);
        tells(s, x -> x.next(0), 9, 1);
    }

    static void askedOfPlacesAndWays(Sentences s) {
        s.says(ASKED, LATEST);
        tells(s, x -> x.apart(2, 0), 1, 0);
        tells(s, x -> x.unlike(), 3, 1);
        tells(s, x -> x.look(7), 2, 3);
        tells(s, x -> x.marks(0), 2, 0);
        tells(s, x -> x.way(0, 2), 4, 2);
        tells(s, x -> x.tour(0), 3, 2);
        tells(s, x -> x.best(), 0, 0);
    }

    static void askedStaysByWhatIsRefused(Sentences s) {
        s.says(ASKED, LATEST);
        tells(s, x -> x.lay(6, 0, 5), BAD, 77);
        tells(s, x -> x.at(0, 1), BumpMap.FINDING, 77);
        tells(s, x -> x.mean(5), BumpMap.FINDING, 77);
        tells(s, x -> x.road(3, 0), BAD, 77);
        tells(s, x -> x.from(3), BAD, 77);
        tells(s, x -> x.go(1), STATE, 77);
        tells(s, x -> x.felt(2), BumpMap.FINDING, 77);
        tells(s, x -> x.feels(0, 3, 0), BAD, 77);
        tells(s, x -> x.where(1), BumpMap.FINDING, 77);
        tells(s, x -> x.slips(1, 0), BumpMap.FINDING, 77);
        tells(s, x -> x.next(5), BumpMap.FINDING, 77);
        tells(s, x -> x.apart(0, 3), BAD, 77);
        tells(s, x -> x.look(8), BAD, 77);
        tells(s, x -> x.marks(1), BumpMap.FINDING, 77);
        tells(s, x -> x.way(3, 0), BAD, 77);
        tells(s, x -> x.tour(3), BAD, 77);
    }

    static void askedStaysByStateWithoutPlaces(Sentences s) {
        s.says(ASKED, LATEST);
        BumpMap x = new BumpMap();
        Check.fill(x, 0, 77);
        x.at(0, 0);
        s.told(x, x.here(), STATE, 77);
        s.told(x, x.unlike(), STATE, 77);
        s.told(x, x.best(), NONE, 77);
        s.told(x, x.from(0), BAD, 77);
    }

    static void askedStaysByNone(Sentences s) {
        s.says(ASKED, LATEST);
        BumpMap x = Check.landed("n3 t010 t120");
        Check.fill(x, 0, 0, 0, 0);
        Check.fill(x, 1, 77);
        x.at(1, 0);
        s.told(x, x.slips(0, 0), NONE, 77);
        s.told(x, x.next(0), NONE, 77);
        s.told(x, x.apart(1, 1), NONE, 77);
        s.told(x, x.way(2, 0), NONE, 77);
        s.told(x, x.tour(1), NONE, 77);
        s.told(x, x.best(), NONE, 77);
        s.told(x, x.first(0, 0, 0), NONE, 77);
        s.told(x, x.fault(0), NONE, 77);
    }

    static void askedStaysByOtherCalls(Sentences s) {
        s.says(ASKED, LATEST);
        tells(s, x -> x.row(2, 3), 3, 77);
        tells(s, x -> x.tear(2), 1, 77);
        tells(s, x -> x.copy(0, 0, 2, 0, 1), 1, 77);
        tells(s, x -> x.text(1, 2), 2, 77);
        tells(s, x -> x.put(0, 0, 110), 1110, 77);
        tells(s, x -> x.land(0), 3, 77);
        tells(s, x -> x.mark(2, 2), 0, 77);
        tells(s, x -> x.wheels(2), 1, 77);
        tells(s, x -> x.begin(1), 2, 77);
        tells(s, x -> x.undo(1), 1, 77);
        tells(s, x -> x.tell(3), 2, 77);
        tells(s, x -> x.keep(1), 2, 77);
        tells(s, x -> x.on(0), 2, 77);
        tells(s, x -> x.drives(0, 1), 1, 77);
        tells(s, x -> x.ends(0, 1), 5, 77);
        tells(s, x -> x.first(0, 1, 3), 0, 77);
        tells(s, x -> x.rounds(0, 2), 1, 77);
        tells(s, x -> x.pave(0), 2, 77);
        tells(s, x -> x.loss(0), 0, 77);
        tells(s, x -> x.lots(3, 1), 3, 77);
    }

    static void askedStaysByWhatTells(Sentences s) {
        s.says(ASKED, LATEST);
        tells(s, x -> x.asked(), 77, 77);
        tells(s, x -> x.upper(), 0, 77);
        tells(s, x -> x.lower(), 1, 77);
        tells(s, x -> x.count(7), 1, 77);
        tells(s, x -> x.finding(), 0, 77);
        tells(s, x -> x.findings(1), 0, 77);
        tells(s, x -> x.digest() == 0 ? 0 : 1, 1, 77);
    }

    // ---- promises 43, 44

    static void upperNoughtBefore(Sentences s) {
        s.says(UPPER, UPPER_ONE);
        BumpMap x = Check.landed(LAND);
        x.row(0, 17);
        x.drives(0, 0);
        x.rounds(0, 15);
        s.due(x.upper(), 0);
        s.due(new BumpMap().upper(), 0);
    }

    static void upperOfTheLatest(Sentences s) {
        s.says(UPPER, UPPER_ONE);
        BumpMap x = Check.landed("n1" + "r000".repeat(10));
        x.row(0, 16);
        x.drives(0, 0);
        s.due(x.upper(), 10000000000000000L);
        x.rounds(0, 0);
        s.due(x.upper(), 1);
        Check.fill(x, 0, 1);
        x.drives(0, 0);
        s.due(x.upper(), 0);
        x.rounds(0, 14);
        x.rounds(0, 15);
        x.drives(1, 0);
        x.land(0);
        s.due(x.upper(), 100000000000000L);
    }

    static void lowerOneBefore(Sentences s) {
        s.says(LOWER, LOWER_ONE);
        BumpMap x = new BumpMap();
        s.due(x.lower(), 1);
        Check.write(x, 0, "n2 t010");
        x.land(0);
        s.due(x.lower(), 1);
        x.rounds(0, 1);
        s.due(x.upper(), 0);
        s.due(x.lower(), 1);
    }

    // ---- promise 45

    static void countOfNone(Sentences s) {
        s.says(COUNT, COUNTS);
        BumpMap x = new BumpMap();
        for (int what = 0; what < 8; what++) s.due(x.count(what), 0);
    }

    static void countOfAsManyAsThereMayBe(Sentences s) {
        s.says(COUNT, COUNTS);
        BumpMap x = Check.landed("n7" + "v000".repeat(10));
        for (int r = 0; r < 6; r++) x.row(r, 0);
        for (int t = 1; t < 4; t++) x.text(t, 0);
        x.lots(40, 1);
        for (int k = 0; k < 3; k++) x.keep(k);
        int[] want = {7, 10, 40, 10, 0, 3, 6, 4};
        for (int what = 0; what < 8; what++) s.due(x.count(what), want[what]);
        BumpMap y = Check.landed("n1" + "t000".repeat(10));
        s.due(y.count(3), 0);
        s.due(y.count(4), 10);
    }

    static void countOfPavedAndStonyOnes(Sentences s) {
        s.says(COUNT, COUNTS);
        BumpMap x = Check.landed("n1 r000 p000 s000 f000 t000 v000");
        s.due(x.count(3), 2);
        s.due(x.count(4), 2);
        x.pave(0);
        x.pave(2);
        s.due(x.count(3), 4);
        s.due(x.count(4), 1);
    }

    static void countBad(Sentences s) {
        s.says(COUNT, "BAD.");
        BumpMap x = Check.landed(LAND);
        for (int what : new int[] {-1, 8, LEAST, MOST}) s.refused(x, BAD, () -> x.count(what));
    }

    // ---- promises 46, 47

    static void findingNoughtBeforeAny(Sentences s) {
        s.says(FINDING, "The latest FINDING (0 before any).");
        BumpMap x = new BumpMap();
        s.due(x.finding(), 0);
        x.row(6, 0);
        x.here();
        x.best();
        s.due(x.finding(), 0);
    }

    static void findingTheLatest(Sentences s) {
        s.says(FINDING, "The latest FINDING (0 before any).");
        BumpMap x = Check.landed(LAND);
        x.row(0, -1);
        s.due(x.finding(), SIZE);
        x.at(0, 0);
        s.due(x.finding(), NOTHING);
        x.row(0, 0);
        x.at(0, 0);
        s.due(x.finding(), BEYOND);
        x.mean(0);
        s.due(x.finding(), NOUGHT);
        x.mark(0, 1);
        s.due(x.finding(), UNLIKE);
        x.go(9);
        x.go(1);
        x.way(2, 0);
        x.land(0);
        s.due(x.finding(), UNLIKE);
    }

    static void findingsOfEach(Sentences s) {
        s.says(FINDINGS, HOW_OFTEN);
        BumpMap x = Check.landed(LAND);
        for (int f = 1; f <= 5; f++) s.due(x.findings(f), 0);
        x.on(0);
        x.felt(0);
        x.felt(0);
        for (int k = 0; k < 3; k++) x.mark(0, 1);
        x.row(0, 0);
        for (int k = 0; k < 4; k++) x.mean(0);
        for (int k = 0; k < 5; k++) x.text(1, -1);
        x.go(1);
        x.begin(3);
        for (int f = 1; f <= 5; f++) s.due(x.findings(f), f);
    }

    static void findingsBad(Sentences s) {
        s.says(FINDINGS, "BAD.");
        BumpMap x = new BumpMap();
        x.at(0, 0);
        for (int f : new int[] {0, 6, -1, LEAST, MOST}) s.refused(x, BAD, () -> x.findings(f));
    }

    // ---- promise 48

    private static long digestOf(List<Integer> values) {
        long h = 17;
        for (int v : values) h = 31 * h + v;
        return h;
    }

    private static List<Integer> list(int... values) {
        List<Integer> list = new ArrayList<>();
        for (int v : values) list.add(v);
        return list;
    }

    private static void add(List<Integer> list, int... values) {
        list.addAll(list(values));
    }

    static void digestOfANewOne(Sentences s) {
        s.says(DIGEST, OF_ALL);
        s.due(new BumpMap().digest(), digestOf(list(0, 0, 0, 0, 0, 0, 0, 0, 1, 0, -1, -1, -1,
            -1, -1, -1, -1, -1, -1, -1, -1, -1, -1)));
    }

    static void digestOfEmptyRowsTextsAndKeptDrives(Sentences s) {
        s.says(DIGEST, OF_ALL);
        BumpMap x = Check.landed("n1");
        for (int r = 0; r < 6; r++) x.row(r, 0);
        for (int t = 0; t < 4; t++) x.text(t, 0);
        for (int k = 0; k < 3; k++) x.keep(k);
        s.due(x.digest(), digestOf(list(1, 0, 0, 0, 0, 3, 6, 4, 1, 0, 0, 0, 0,
            0, 0, 0, 0, 0, 0, 0, 0, 0, 0)));
        x.tear(5);
        s.due(x.digest(), digestOf(list(1, 0, 0, 0, 0, 3, 5, 4, 1, 0, 0, 0, 0,
            0, 0, 0, 0, 0, -1, 0, 0, 0, 0)));
    }

    static void digestOfFullRowsTextsAndDrives(Sentences s) {
        s.says(DIGEST, OF_ALL);
        BumpMap x = Check.landed("n2 r018");
        x.wheels(3);
        for (int k = 0; k < 39; k++) x.go(0);
        x.keep(2);
        x.row(5, 40);
        x.lay(5, 0, LEAST);
        x.lay(5, 39, MOST);
        x.text(0, 80);
        x.put(0, 79, 128);
        List<Integer> want = list(2, 1, 39, 0, 0, 1, 1, 1, 3, 0, 0, 1, 8, 2, 1);
        for (int k = 0; k < 39; k++) add(want, 0, 2);
        add(want, -1, -1, 39, -1, -1, -1, -1, -1, 40, LEAST);
        for (int i = 0; i < 38; i++) add(want, 0);
        add(want, MOST, 80);
        for (int i = 0; i < 79; i++) add(want, 32);
        add(want, -128, -1, -1, -1);
        s.due(x.digest(), digestOf(want));
    }

    static void digestOfRoadsDrivenAsTheyFeltThen(Sentences s) {
        s.says(DIGEST, OF_ALL);
        BumpMap x = Check.landed("n1 s003");
        x.go(0);
        x.pave(0);
        x.go(0);
        x.text(0, 0);
        s.due(x.digest(), digestOf(list(1, 1, 2, 1, 0, 0, 0, 1, 1, 1, 0, 0, 3, 0, 0, 0, 6, 0, 0, -1, -1, -1,
            -1, -1, -1, -1, -1, -1, 0, -1, -1, -1)));
    }

    static void digestLeavesAsked(Sentences s) {
        s.says(DIGEST, OF_ALL);
        BumpMap x = asked77();
        long digest = x.digest();
        s.due(x.asked(), 77);
        s.due(x.digest(), digest);
        s.due(x.upper(), 0);
        s.due(x.finding(), 0);
        BumpMap y = new BumpMap();
        y.digest();
        s.due(y.asked(), 0);
    }

    static void refusedByFullTellsNothing(Sentences s) {
        s.says(ASKED, LATEST);
        BumpMap x = Check.landed("n1 r001");
        x.lots(40, 1);
        x.here();
        s.refused(x, FULL, () -> x.go(0));
        s.due(x.asked(), 40);
    }
}
