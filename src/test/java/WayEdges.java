/** Promises 35 to 40: the smoothest way, rounds, the DRIVE over all ROADS, paving. */
final class WayEdges {
    private static final int BAD = BumpMap.BAD, STATE = BumpMap.STATE, NONE = BumpMap.NONE;
    private static final int LEAST = Integer.MIN_VALUE, MOST = Integer.MAX_VALUE;
    private static final String WAY = "Promise 35", ROUNDS = "Promise 36", TOUR = "Promise 37", PAVE = "Promise 38",
        LOSS = "Promise 39", BEST = "Promise 40";
    private static final String SMOOTHEST = "The smoothest way from a PLACE to another one (perhaps the same: 0): "
        + "the least sum of what its ROADS feel like; of these the fewest ROADS by asked().";
    private static final String BACK = "In how many DRIVES of k (0 .. 14) ROADS from a PLACE one is back there, "
        + "told by upper() (lower() is 1): 1.";
    private static final String OVER_ALL = "The fewest ROADS of a DRIVE from a PLACE by which each ROAD is driven "
        + "at least once; where it ends (the least PLACE) by asked().";
    private static final String PAVED = "A ROAD is paved (KIND 0 or 2: it becomes PAVED; its JOLT stays): "
        + "what it felt like.";
    private static final String CANT_BE = "BAD; STATE: it can't be.";
    private static final String LOST = "How many pairs of PLACES that are not ALIKE would be, were a ROAD paved.";
    private static final String LEAST_LOSS = "The ROAD that can be paved with the least loss() (the first); "
        + "that by asked().";

    // ---- promise 35

    static void wayToTheSamePlace(Sentences s) {
        s.says(WAY, SMOOTHEST);
        BumpMap x = Check.landed("n7 r000 r119");
        for (int p = 0; p < 7; p++) s.told(x, x.way(p, p), 0, 0);
    }

    static void wayOfTheGreatestSum(Sentences s) {
        s.says(WAY, SMOOTHEST);
        BumpMap x = Check.landed("n7 f010 f120 f230 f340 f450 f560");
        s.told(x, x.way(0, 6), 54, 6);
        s.told(x, x.way(6, 0), 54, 6);
        s.told(x, x.way(5, 6), 9, 1);
    }

    static void wayOfNoSum(Sentences s) {
        s.says(WAY, SMOOTHEST);
        BumpMap x = Check.landed("n7 p010 p120 p230 p340 p450 p560 f060");
        s.told(x, x.way(0, 6), 0, 6);
        s.told(x, x.way(0, 5), 0, 5);
    }

    static void wayOfTheFewestRoadsAmongSmoothOnes(Sentences s) {
        s.says(WAY, SMOOTHEST);
        BumpMap x = Check.landed("n4 r011 r121 r231 r033 r022 p022");
        s.told(x, x.way(0, 3), 1, 2);
        BumpMap y = Check.landed("n4 r011 r121 r231 r033");
        s.told(y, y.way(0, 3), 3, 1);
        BumpMap z = Check.landed("n4 r011 r121 r231 r034");
        s.told(z, z.way(0, 3), 3, 3);
    }

    static void wayNone(Sentences s) {
        s.says(WAY, "NONE: none.");
        BumpMap x = Check.landed("n4 t010 t120");
        s.told(x, x.way(0, 2), 0, 2);
        s.refused(x, NONE, () -> x.way(2, 0));
        s.refused(x, NONE, () -> x.way(1, 0));
        s.refused(x, NONE, () -> x.way(0, 3));
        s.refused(x, NONE, () -> x.way(3, 0));
    }

    static void wayBad(Sentences s) {
        s.says(WAY, "BAD.");
        BumpMap x = Check.landed("n2 r012");
        for (int p : new int[] {-1, 2, 7, LEAST, MOST}) {
            s.refused(x, BAD, () -> x.way(p, 0));
            s.refused(x, BAD, () -> x.way(0, p));
        }
        s.refused(x, BAD, () -> x.way(2, 2));
        BumpMap y = new BumpMap();
        s.refused(y, BAD, () -> y.way(0, 0));
    }

    // ---- promise 36

    static void roundsOfNoRoads(Sentences s) {
        s.says(ROUNDS, BACK);
        BumpMap x = Check.landed("n7 t010");
        for (int p = 0; p < 7; p++) s.upper(x, x.rounds(p, 0), 1);
    }

    static void roundsOfFourteen(Sentences s) {
        s.says(ROUNDS, BACK);
        BumpMap x = Check.landed("n1" + "r000".repeat(10));
        s.upper(x, x.rounds(0, 14), 100000000000000L);
        s.upper(x, x.rounds(0, 13), 10000000000000L);
        s.upper(x, x.rounds(0, 1), 10);
        BumpMap y = Check.landed("n2" + "r010".repeat(10));
        s.upper(y, y.rounds(1, 14), 100000000000000L);
        s.upper(y, y.rounds(1, 13), 0);
    }

    static void roundsThatAreNone(Sentences s) {
        s.says(ROUNDS, BACK);
        BumpMap x = Check.landed("n3 t010 t120");
        x.rounds(0, 0);
        s.upper(x, x.rounds(0, 1), 0);
        s.upper(x, x.rounds(0, 14), 0);
        s.upper(x, x.rounds(2, 14), 0);
    }

    static void roundsPassingTheirPlaceCountToo(Sentences s) {
        s.says(ROUNDS, BACK);
        BumpMap x = Check.landed("n2 r010 r000");
        // There and back, or twice round.
        s.upper(x, x.rounds(0, 2), 2);
        s.upper(x, x.rounds(0, 3), 3);
        s.upper(x, x.rounds(1, 3), 1);
    }

    static void roundsBad(Sentences s) {
        s.says(ROUNDS, "BAD.");
        BumpMap x = Check.landed("n2 r012");
        for (int p : new int[] {-1, 2, 7, LEAST, MOST}) s.refused(x, BAD, () -> x.rounds(p, 2));
        for (int k : new int[] {-1, 15, LEAST, MOST}) s.refused(x, BAD, () -> x.rounds(0, k));
        BumpMap y = new BumpMap();
        s.refused(y, BAD, () -> y.rounds(0, 0));
    }

    // ---- promise 37

    static void tourOverNoRoads(Sentences s) {
        s.says(TOUR, OVER_ALL);
        BumpMap x = Check.landed("n7");
        for (int p = 0; p < 7; p++) s.told(x, x.tour(p), 0, p);
    }

    static void tourOverTenRoads(Sentences s) {
        s.says(TOUR, OVER_ALL);
        BumpMap x = Check.landed("n1" + "r000".repeat(10));
        s.told(x, x.tour(0), 10, 0);
        // One way round with five ways back: each of them costs a whole round.
        BumpMap y = Check.landed("n6t010t120t230t340t450t500t500t500t500t500");
        s.told(y, y.tour(0), 30, 0);
        s.told(y, y.tour(5), 25, 0);
    }

    static void tourEndsAtTheLeastPlace(Sentences s) {
        s.says(TOUR, OVER_ALL);
        BumpMap x = Check.landed("n7 r360 r350 r340");
        s.told(x, x.tour(3), 5, 4);
        s.told(x, x.tour(4), 4, 5);
        s.told(x, x.tour(6), 4, 4);
    }

    static void tourNone(Sentences s) {
        s.says(TOUR, "NONE: never.");
        BumpMap x = Check.landed("n4 t010 t120");
        s.told(x, x.tour(0), 2, 2);
        s.refused(x, NONE, () -> x.tour(1));
        s.refused(x, NONE, () -> x.tour(2));
        s.refused(x, NONE, () -> x.tour(3));
        BumpMap y = Check.landed("n3 t010 t020");
        s.refused(y, NONE, () -> y.tour(0));
    }

    static void tourBad(Sentences s) {
        s.says(TOUR, "BAD.");
        BumpMap x = Check.landed("n2 r012");
        for (int p : new int[] {-1, 2, 7, LEAST, MOST}) s.refused(x, BAD, () -> x.tour(p));
        BumpMap y = new BumpMap();
        s.refused(y, BAD, () -> y.tour(0));
    }

    // ---- promise 38

    static void paveARoadAndAStonyOne(Sentences s) {
        s.says(PAVE, PAVED);
        BumpMap x = Check.landed("n2 r019 s015");
        s.due(x.pave(0), 9);
        s.due(x.pave(1), 9);
        for (int i = 0; i < 2; i++) {
            s.told(x, x.road(i, 0), 1, 1);
            s.told(x, x.road(i, 3), 1, i == 0 ? 9 : 5);
            s.told(x, x.road(i, 4), 1, 0);
        }
        s.due(x.count(3), 2);
        s.due(x.count(4), 0);
    }

    static void paveTellsWhatItFeltLikeByWheels(Sentences s) {
        s.says(PAVE, PAVED);
        BumpMap x = Check.landed("n2 r019 s015 r010 s010");
        x.wheels(3);
        s.due(x.pave(0), 3);
        s.due(x.pave(1), 3);
        s.due(x.pave(2), 0);
        s.due(x.pave(3), 0);
    }

    static void paveLeavesTheDriveAndWhatIsKept(Sentences s) {
        s.says(PAVE, PAVED);
        BumpMap x = Check.landed("n2 r014");
        x.go(0);
        x.keep(0);
        s.due(x.pave(0), 4);
        s.told(x, x.felt(0), 4, 0);
        s.told(x, x.here(), 1, 1);
        s.due(x.on(0), 1);
        s.told(x, x.felt(0), 4, 0);
    }

    static void paveBad(Sentences s) {
        s.says(PAVE, CANT_BE);
        BumpMap x = Check.landed("n2 r012");
        for (int i : new int[] {-1, 1, 10, LEAST, MOST}) s.refused(x, BAD, () -> x.pave(i));
        BumpMap y = new BumpMap();
        s.refused(y, BAD, () -> y.pave(0));
    }

    static void paveState(Sentences s) {
        s.says(PAVE, CANT_BE);
        BumpMap x = Check.landed("n2 p012 f012 t012 v012 r012");
        for (int i = 0; i < 4; i++) {
            int road = i;
            s.refused(x, STATE, () -> x.pave(road));
        }
        s.due(x.pave(4), 2);
        s.refused(x, STATE, () -> x.pave(4));
    }

    // ---- promise 39

    static void lossOfNone(Sentences s) {
        s.says(LOSS, LOST);
        BumpMap x = Check.landed("n1 r005");
        s.due(x.loss(0), 0);
        BumpMap y = Check.landed("n2 r010 p010");
        s.due(y.loss(0), 0);
    }

    static void lossOfMany(Sentences s) {
        s.says(LOSS, LOST);
        BumpMap x = Check.landed("n7 r014 p220 p330 p440 p550 p660");
        s.told(x, x.unlike(), 2, 3);
        s.due(x.loss(0), 10);
        BumpMap y = Check.landed("n7 s014 p220 p340 p450 p660");
        s.due(y.loss(0), 10);
    }

    static void lossDoesNotCountPairsThatArePartedByPaving(Sentences s) {
        s.says(LOSS, LOST);
        BumpMap x = Check.landed("n4 r012 r122 r232 r302");
        s.told(x, x.unlike(), 1, 15);
        s.due(x.loss(0), 0);
        x.pave(0);
        s.told(x, x.unlike(), 2, 3);
    }

    static void lossPavesNothing(Sentences s) {
        s.says(LOSS, LOST);
        BumpMap x = Check.landed("n2 r001 p110");
        s.refused(x, 1, () -> x.loss(0));
        s.refused(x, 1, () -> x.loss(0));
        s.told(x, x.unlike(), 2, 1);
        x.wheels(2);
        s.due(x.loss(0), 0);
    }

    static void lossBad(Sentences s) {
        s.says(LOSS, CANT_BE);
        BumpMap x = Check.landed("n2 r012");
        for (int i : new int[] {-1, 1, 10, LEAST, MOST}) s.refused(x, BAD, () -> x.loss(i));
        BumpMap y = new BumpMap();
        s.refused(y, BAD, () -> y.loss(0));
    }

    static void lossState(Sentences s) {
        s.says(LOSS, CANT_BE);
        BumpMap x = Check.landed("n2 p012 f012 t012 v012 r012");
        for (int i = 0; i < 4; i++) {
            int road = i;
            s.refused(x, STATE, () -> x.loss(road));
        }
        x.pave(4);
        s.refused(x, STATE, () -> x.loss(4));
    }

    // ---- promise 40

    static void bestIsTheFirstOfSeveral(Sentences s) {
        s.says(BEST, LEAST_LOSS);
        BumpMap x = Check.landed("n1 p000 r001 r002 s003");
        s.told(x, x.best(), 1, 0);
        x.pave(1);
        s.told(x, x.best(), 2, 0);
        x.pave(2);
        s.told(x, x.best(), 3, 0);
    }

    static void bestIsTheLeastLoss(Sentences s) {
        s.says(BEST, LEAST_LOSS);
        BumpMap x = Check.landed("n3 r014 p220 r225");
        s.due(x.loss(0), 0);
        // Paving ROAD 0 would make 0 and 1 ALIKE to 2, paving ROAD 2 would make 3 so.
        BumpMap y = Check.landed("n4 r014 p220 r334 p330");
        s.due(y.loss(0), 2);
        s.due(y.loss(2), 1);
        s.told(y, y.best(), 2, 1);
    }

    static void bestOfTheLastRoadAlone(Sentences s) {
        s.says(BEST, LEAST_LOSS);
        BumpMap x = Check.landed("n7" + "p660".repeat(9) + "r014");
        s.told(x, x.best(), 9, 2);
    }

    static void bestNone(Sentences s) {
        s.says(BEST, "NONE: none can be.");
        BumpMap x = Check.landed("n2 p012 f012 t012 v012 r012");
        s.told(x, x.best(), 4, 0);
        x.pave(4);
        s.refused(x, NONE, () -> x.best());
        BumpMap y = Check.landed("n2");
        s.refused(y, NONE, () -> y.best());
        BumpMap z = new BumpMap();
        s.refused(z, NONE, () -> z.best());
    }
}
