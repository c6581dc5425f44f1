/** Promises 31 to 33: what tells PLACES apart, unlike PLACES, groups of a look. */
final class AlikeEdges {
    private static final int BAD = BumpMap.BAD, NONE = BumpMap.NONE, STATE = BumpMap.STATE;
    private static final int LEAST = Integer.MIN_VALUE, MOST = Integer.MAX_VALUE;
    private static final String APART = "Promise 31", UNLIKE = "Promise 32", LOOK = "Promise 33";
    private static final String SHORTEST = "The length of the shortest FELT ROW (of any length) that can be driven from "
        + "just one of two PLACES; from which (of several as short: by the first by numbers) by asked().";
    private static final String HOW_MANY = "How many unlike PLACES there are (ALIKE ones counted once); "
        + "PLACES ALIKE to PLACE 0 (bits; it, too) by asked().";
    private static final String GROUPS = "Of a set of PLACES: into how many groups they are parted by what all ROADS "
        + "that can be driven from them feel like (as sets of numbers); the greatest group "
        + "(bits; of alike ones the first) by asked().";
    /** Steps down from 0 to 6: none of the seven goes on as long as another one. */
    private static final String STAIRS = "n7 t010 t120 t230 t340 t450 t560";

    // ---- promise 31

    static void apartByOneNumber(Sentences s) {
        s.says(APART, SHORTEST);
        BumpMap x = Check.landed("n2 r000");
        s.told(x, x.apart(0, 1), 1, 0);
        s.told(x, x.apart(1, 0), 1, 0);
        BumpMap y = Check.landed("n2 f110");
        s.told(y, y.apart(0, 1), 1, 1);
    }

    static void apartBySevenSteps(Sentences s) {
        s.says(APART, SHORTEST);
        BumpMap x = Check.landed(STAIRS);
        s.told(x, x.apart(0, 1), 6, 0);
        s.told(x, x.apart(1, 0), 6, 0);
        s.told(x, x.apart(6, 5), 1, 5);
        s.told(x, x.apart(0, 6), 1, 0);
    }

    static void apartByMoreThanSixteenNumbers(Sentences s) {
        s.says(APART, SHORTEST);
        BumpMap x = Check.landed("n7r060r322t620r050t340r120t230r542t201t410");
        s.told(x, x.apart(6, 1), 17, 6);
        s.told(x, x.apart(1, 6), 17, 6);
    }

    static void apartByTheFirstOfSeveral(Sentences s) {
        s.says(APART, SHORTEST);
        BumpMap x = Check.landed("n2 p000 f110");
        s.told(x, x.apart(0, 1), 1, 0);
        s.told(x, x.apart(1, 0), 1, 0);
        BumpMap y = Check.landed("n2 f000 p110");
        s.told(y, y.apart(0, 1), 1, 1);
        // By 2 both go on, then 0 by 8 alone and 1 by 4 alone: 24 comes ahead of 28.
        BumpMap z = Check.landed("n5 t021 t131 t244 t342");
        s.told(z, z.apart(0, 1), 2, 1);
        s.told(z, z.apart(1, 0), 2, 1);
    }

    static void apartNoneToItself(Sentences s) {
        s.says(APART, "NONE: they are ALIKE.");
        BumpMap x = Check.landed(STAIRS);
        for (int p = 0; p < 7; p++) {
            int place = p;
            s.refused(x, NONE, () -> x.apart(place, place));
        }
    }

    static void apartNoneOfOthers(Sentences s) {
        s.says(APART, "NONE: they are ALIKE.");
        BumpMap x = Check.landed("n7");
        s.refused(x, NONE, () -> x.apart(0, 6));
        BumpMap y = Check.landed("n3 r012 r222");
        s.refused(y, NONE, () -> y.apart(0, 2));
        BumpMap z = Check.landed("n2 r002 r112 r112");
        s.refused(z, NONE, () -> z.apart(1, 0));
    }

    static void apartBad(Sentences s) {
        s.says(APART, "BAD.");
        BumpMap x = Check.landed("n2 r012");
        for (int p : new int[] {-1, 2, 7, LEAST, MOST}) {
            s.refused(x, BAD, () -> x.apart(p, 0));
            s.refused(x, BAD, () -> x.apart(0, p));
        }
        s.refused(x, BAD, () -> x.apart(2, 2));
        BumpMap y = new BumpMap();
        s.refused(y, BAD, () -> y.apart(0, 0));
    }

    // ---- promise 32

    static void unlikeOne(Sentences s) {
        s.says(UNLIKE, HOW_MANY);
        BumpMap x = Check.landed("n1");
        s.told(x, x.unlike(), 1, 1);
        BumpMap y = Check.landed("n7");
        s.told(y, y.unlike(), 1, 127);
    }

    static void unlikeSeven(Sentences s) {
        s.says(UNLIKE, HOW_MANY);
        BumpMap x = Check.landed(STAIRS);
        s.told(x, x.unlike(), 7, 1);
    }

    static void unlikeAlikeOnesCountedOnce(Sentences s) {
        s.says(UNLIKE, HOW_MANY);
        BumpMap x = Check.landed("n7 r111 r221 r551");
        s.told(x, x.unlike(), 2, 89);
        BumpMap y = Check.landed("n7 r001 r111 r661 r225");
        s.told(y, y.unlike(), 3, 67);
    }

    static void unlikeState(Sentences s) {
        s.says(UNLIKE, "STATE: no PLACES.");
        BumpMap x = new BumpMap();
        s.refused(x, STATE, () -> x.unlike());
        x.text(0, 3);
        x.land(0);
        s.refused(x, STATE, () -> x.unlike());
    }

    // ---- promise 33

    static void lookAtAllSeven(Sentences s) {
        s.says(LOOK, GROUPS);
        BumpMap x = Check.landed("n7");
        s.told(x, x.look(127), 1, 127);
        BumpMap y = Check.landed("n7t000t111t221t112t332t442t553t664t443");
        s.told(y, y.look(127), 7, 1);
    }

    static void lookAtOne(Sentences s) {
        s.says(LOOK, GROUPS);
        BumpMap x = Check.landed(STAIRS);
        for (int p = 0; p < 7; p++) s.told(x, x.look(1 << p), 1, 1 << p);
    }

    static void lookAtSetsOfNumbers(Sentences s) {
        s.says(LOOK, GROUPS);
        BumpMap x = Check.landed("n4 r002 r002 r112 s221 r330 s331");
        s.told(x, x.look(7), 1, 7);
        s.told(x, x.look(15), 2, 7);
        s.told(x, x.look(8), 1, 8);
    }

    static void lookAtWhatCanBeDrivenFromThere(Sentences s) {
        s.says(LOOK, GROUPS);
        BumpMap x = Check.landed("n3 t012");
        s.told(x, x.look(7), 2, 6);
        s.told(x, x.look(3), 2, 1);
    }

    static void lookTheFirstOfAlikeGroups(Sentences s) {
        s.says(LOOK, GROUPS);
        BumpMap x = Check.landed("n6 r119 r229 r333 r443");
        s.told(x, x.look(63), 3, 33);
        s.told(x, x.look(30), 2, 6);
        s.told(x, x.look(62), 3, 6);
        s.told(x, x.look(58), 3, 24);
    }

    static void lookAtTheEmptySet(Sentences s) {
        s.says(LOOK, "(The empty set: 0, 0.)");
        BumpMap x = Check.landed(STAIRS);
        x.look(127);
        s.told(x, x.look(0), 0, 0);
        BumpMap y = new BumpMap();
        y.row(0, 1);
        y.lay(0, 0, 5);
        y.at(0, 0);
        s.told(y, y.look(0), 0, 0);
    }

    static void lookBad(Sentences s) {
        s.says(LOOK, "BAD.");
        BumpMap x = Check.landed("n7");
        for (int set : new int[] {128, 255, -1, LEAST, MOST}) s.refused(x, BAD, () -> x.look(set));
        BumpMap y = Check.landed("n3");
        for (int set : new int[] {8, 9, 64, -8}) s.refused(y, BAD, () -> y.look(set));
        s.told(y, y.look(7), 1, 7);
        BumpMap z = new BumpMap();
        s.refused(z, BAD, () -> z.look(1));
    }
}
