/** Promises 12 to 15: what ROADS tell, WHEELS, what can be driven from a PLACE. */
final class RoadEdges {
    private static final int BAD = BumpMap.BAD;
    private static final int UNLIKE = 3;
    private static final int LEAST = Integer.MIN_VALUE, MOST = Integer.MAX_VALUE;
    private static final String ROAD = "Promise 12", MARK = "Promise 13", WHEELS = "Promise 14", FROM = "Promise 15";
    private static final String FACTS = "Of a ROAD: 0 its KIND, 1 its one end, 2 its other end, 3 its JOLT, "
        + "4 what it FEELS like, told by asked(): 1.";
    private static final String PAVED_ONE = "What a ROAD that IS of a KIND tells: a PAVED one (AVENUE, too) "
        + "what it would feel like unpaved (its JOLT by WHEELS, cut),";
    private static final String STONY_ONE = "a STONY one (STEPS, too) how many other ROADS feel like it,";
    private static final String FORD_ONE = "a FORD one how many ROADS come to its ends (it itself once),";
    private static final String STEPS_ONE = "a STEPS one the PLACE to which it leads,";
    private static final String AVENUE_ONE = "an AVENUE one how many AVENUES there are.";
    private static final String MARK_REFUSED = "BAD: also KIND 0; UNLIKE.";
    private static final String LED = "ROADS that can be driven from a PLACE (bits); "
        + "PLACES to which they lead (bits) by asked().";
    private static final String EACH_KIND = "n2 r000 p010 s000 f010 t000 v010";
    private static final String KINDS = "KINDS of ROADS and letters: 0 ROAD (r, 114), 1 PAVED (p, 112; a ROAD), "
        + "2 STONY (s, 115; a ROAD), 3 FORD (f, 102; a ROAD), 4 STEPS (t, 116; a STONY), 5 AVENUE (v, 118; a PAVED).";

    // ---- promise 12

    static void roadTellsTheLeastAndTheGreatest(Sentences s) {
        s.says(ROAD, FACTS);
        BumpMap x = Check.landed("n7 r000 r010 r010 r010 r010 r010 r010 r010 r010 v669");
        int[] first = {0, 0, 0, 0, 0};
        int[] last = {5, 6, 6, 9, 1};
        for (int what = 0; what < 5; what++) {
            s.told(x, x.road(0, what), 1, first[what]);
            s.told(x, x.road(9, what), 1, last[what]);
        }
    }

    static void roadTellsItsEndsAsTheyCame(Sentences s) {
        s.says(ROAD, FACTS);
        BumpMap x = Check.landed("n7 t605 r234");
        s.told(x, x.road(0, 1), 1, 6);
        s.told(x, x.road(0, 2), 1, 0);
        s.told(x, x.road(1, 1), 1, 2);
        s.told(x, x.road(1, 2), 1, 3);
    }

    static void roadBad(Sentences s) {
        s.says(ROAD, "BAD.");
        BumpMap x = Check.landed("n2 r012 r013");
        for (int i : new int[] {-1, 2, 10, LEAST, MOST}) s.refused(x, BAD, () -> x.road(i, 0));
        for (int what : new int[] {-1, 5, LEAST, MOST}) s.refused(x, BAD, () -> x.road(0, what));
    }

    static void roadBadWithoutRoads(Sentences s) {
        s.says(ROAD, "BAD.");
        BumpMap x = new BumpMap();
        s.refused(x, BAD, () -> x.road(0, 0));
        BumpMap y = Check.landed("n2");
        s.refused(y, BAD, () -> y.road(0, 0));
    }

    // ---- promise 13

    static void markOfThePaved(Sentences s) {
        s.says(MARK, PAVED_ONE);
        BumpMap x = Check.landed("n2 p010 p019 v010 v019 p012");
        int[][] want = {{0, 9, 0, 9, 2}, {0, 4, 0, 4, 1}, {0, 3, 0, 3, 0}};
        for (int w = 1; w <= 3; w++) {
            x.wheels(w);
            for (int i = 0; i < 5; i++) s.due(x.mark(i, 1), want[w - 1][i]);
        }
    }

    static void markOfAStonyOneThatWasPaved(Sentences s) {
        s.says(MARK, PAVED_ONE);
        BumpMap x = Check.landed("n2 s019 r019");
        x.pave(0);
        x.pave(1);
        s.due(x.mark(0, 1), 9);
        s.due(x.mark(1, 1), 9);
        s.found(x, UNLIKE, () -> x.mark(0, 2));
    }

    static void markOfTheStonyOnes(Sentences s) {
        s.says(MARK, STONY_ONE);
        BumpMap alone = Check.landed("n2 s011");
        s.due(alone.mark(0, 2), 0);
        BumpMap x = Check.landed("n2" + "s011".repeat(5) + "t101" + "r012".repeat(4));
        s.due(x.mark(0, 2), 9);
        s.due(x.mark(5, 2), 9);
        x.wheels(2);
        s.due(x.mark(0, 2), 9);
        x.wheels(3);
        s.due(x.mark(4, 2), 9);
    }

    static void markOfAStonyOneByWhatIsFeltNow(Sentences s) {
        s.says(MARK, STONY_ONE);
        BumpMap x = Check.landed("n2 s013 r016 v010 f010 p010");
        s.due(x.mark(0, 2), 1);
        x.wheels(3);
        s.due(x.mark(0, 2), 1);
        x.pave(1);
        s.due(x.mark(0, 2), 0);
        BumpMap y = Check.landed("n2 s019 f010");
        s.due(y.mark(0, 2), 1);
        BumpMap z = Check.landed("n2 s010 p019");
        s.due(z.mark(0, 2), 1);
    }

    static void markOfAFordAlone(Sentences s) {
        s.says(MARK, FORD_ONE);
        s.due(Check.landed("n2 f010").mark(0, 3), 1);
        s.due(Check.landed("n2 f000").mark(0, 3), 1);
        s.due(Check.landed("n4 f010 r230 r220").mark(0, 3), 1);
    }

    static void markOfAFordAmongAllTen(Sentences s) {
        s.says(MARK, FORD_ONE);
        s.due(Check.landed("n2" + "f010".repeat(10)).mark(9, 3), 10);
        s.due(Check.landed("n3 f010 r000 r110 t200 t120 f100 r220").mark(0, 3), 6);
    }

    static void markOfAFordWithOneEnd(Sentences s) {
        s.says(MARK, FORD_ONE);
        s.due(Check.landed("n2 f000 r010 r110").mark(0, 3), 2);
    }

    static void markOfSteps(Sentences s) {
        s.says(MARK, STEPS_ONE);
        BumpMap x = Check.landed("n7 t060 t600 t330");
        s.due(x.mark(0, 4), 6);
        s.due(x.mark(1, 4), 0);
        s.due(x.mark(2, 4), 3);
    }

    static void markOfAvenues(Sentences s) {
        s.says(MARK, AVENUE_ONE);
        s.due(Check.landed("n2 p010 v010").mark(1, 5), 1);
        BumpMap x = Check.landed("n2" + "v010".repeat(10));
        s.due(x.mark(0, 5), 10);
        s.due(x.mark(9, 5), 10);
    }

    static void markBadKinds(Sentences s) {
        s.says(MARK, MARK_REFUSED);
        BumpMap x = Check.landed("n2 p010");
        for (int kind : new int[] {0, -1, 6, LEAST, MOST}) s.refused(x, BAD, () -> x.mark(0, kind));
        s.due(x.mark(0, 1), 0);
    }

    static void markBadRoads(Sentences s) {
        s.says(MARK, MARK_REFUSED);
        BumpMap x = Check.landed("n2 p010");
        for (int i : new int[] {-1, 1, 10, LEAST, MOST}) s.refused(x, BAD, () -> x.mark(i, 1));
        BumpMap y = new BumpMap();
        s.refused(y, BAD, () -> y.mark(0, 1));
    }

    static void markUnlike(Sentences s) {
        s.says(MARK, MARK_REFUSED);
        for (int i = 0; i < 6; i++) {
            for (int kind = 1; kind <= 5; kind++) {
                int road = i;
                int of = kind;
                BumpMap x = Check.landed(EACH_KIND);
                boolean is = i == kind || i == 4 && kind == 2 || i == 5 && kind == 1;
                if (is) s.holds(x.mark(i, kind) >= 0);
                else s.found(x, UNLIKE, () -> x.mark(road, of));
            }
        }
    }

    static void stepsAreStonyAndAvenuesPaved(Sentences s) {
        s.says("Terms", KINDS);
        BumpMap x = Check.landed(EACH_KIND);
        s.due(x.mark(4, 2), 3);
        s.due(x.mark(5, 1), 0);
        s.due(x.count(3), 2);
        s.due(x.count(4), 2);
        s.found(x, UNLIKE, () -> x.mark(2, 4));
        s.found(x, UNLIKE, () -> x.mark(1, 5));
        s.found(x, UNLIKE, () -> x.mark(4, 1));
        s.found(x, UNLIKE, () -> x.mark(5, 2));
    }

    // ---- promise 14

    static void wheelsOneToThree(Sentences s) {
        s.says(WHEELS, "WHEELS are w (1 .. 3): what they were.");
        BumpMap x = Check.landed("n2 r019");
        s.due(x.wheels(1), 1);
        s.due(x.wheels(3), 1);
        s.told(x, x.road(0, 4), 1, 3);
        s.due(x.wheels(2), 3);
        s.told(x, x.road(0, 4), 1, 4);
        s.due(x.wheels(1), 2);
        s.told(x, x.road(0, 4), 1, 9);
    }

    static void wheelsBad(Sentences s) {
        s.says(WHEELS, "BAD.");
        BumpMap x = new BumpMap();
        x.wheels(2);
        for (int w : new int[] {0, 4, -1, LEAST, MOST}) s.refused(x, BAD, () -> x.wheels(w));
        s.due(x.wheels(1), 2);
    }

    // ---- promise 15

    static void fromNone(Sentences s) {
        s.says(FROM, LED);
        BumpMap x = Check.landed("n3 t100 t110");
        s.told(x, x.from(1), 3, 3);
        s.told(x, x.from(0), 0, 0);
        s.told(x, x.from(2), 0, 0);
    }

    static void fromAll(Sentences s) {
        s.says(FROM, LED);
        BumpMap x = Check.landed("n7t000t010t020t030t040t050t060r600r500r400");
        s.told(x, x.from(0), 1023, 127);
        s.told(x, x.from(6), 128, 1);
        s.told(x, x.from(1), 0, 0);
    }

    static void fromBad(Sentences s) {
        s.says(FROM, "BAD.");
        BumpMap x = Check.landed("n3 r012");
        for (int p : new int[] {-1, 3, 7, LEAST, MOST}) s.refused(x, BAD, () -> x.from(p));
        BumpMap y = new BumpMap();
        s.refused(y, BAD, () -> y.from(0));
    }
}
