/** Promises 35 to 40: ways, rounds, tours, paving. */
public final class WaysTest {
    private static final int BAD = BumpMap.BAD, NONE = BumpMap.NONE, STATE = BumpMap.STATE;
    private static final Check c = new Check("WaysTest");

    public static void main(String[] args) {
        way();
        rounds();
        tour();
        pave();
        loss();
        best();
        c.end();
    }

    private static void way() {
        BumpMap x = Check.landed("n5 r019 p124 p021 t230");
        c.told("round the jolts", x, x.way(0, 1), 0, 2);
        c.told("down", x, x.way(0, 3), 0, 2);
        c.told("down from 1", x, x.way(1, 3), 0, 2);
        c.told("to itself", x, x.way(4, 4), 0, 0);
        x.way(0, 1);
        c.due("not up", x.way(3, 0), NONE);
        c.due("not there", x.way(0, 4), NONE);
        c.due("asked stays", x.asked(), 2);
        c.due("way BAD", x.way(5, 0), BAD);
        c.due("way BAD", x.way(0, -1), BAD);
        BumpMap y = Check.landed("n3 r011 r121 r022");
        c.told("the fewest roads", y, y.way(0, 2), 2, 1);
        BumpMap z = Check.landed("n7 r019 r129 r239 r349 r459 r569");
        c.told("far", z, z.way(0, 6), 54, 6);
        z.wheels(3);
        c.told("by wheels", z, z.way(6, 0), 18, 6);
    }

    private static void rounds() {
        BumpMap x = Check.landed("n3 r011 r001 t120");
        long[] want = {1, 1, 2, 3, 5, 8};
        for (int k = 0; k < want.length; k++) {
            c.due("rounds " + k, x.rounds(0, k), 1);
            c.due("rounds " + k, x.upper(), want[k]);
            c.due("rounds " + k, x.lower(), 1);
        }
        x.rounds(1, 1);
        c.due("none", x.upper(), 0);
        x.rounds(1, 2);
        c.due("there and back", x.upper(), 1);
        x.rounds(2, 0);
        c.due("no roads", x.upper(), 1);
        x.rounds(2, 2);
        c.due("never back", x.upper(), 0);
        c.due("rounds BAD", x.rounds(3, 0), BAD);
        c.due("rounds BAD", x.rounds(-1, 0), BAD);
        c.due("rounds BAD", x.rounds(0, -1), BAD);
        c.due("rounds BAD", x.rounds(0, 15), BAD);
        c.due("upper stays", x.upper(), 0);
        BumpMap y = Check.landed("n1" + "r000".repeat(10));
        y.rounds(0, 14);
        c.due("ten to the 14", y.upper(), 100000000000000L);
    }

    private static void tour() {
        BumpMap x = Check.landed("n4 r011 r021 r031");
        c.told("a star from its middle", x, x.tour(0), 5, 1);
        c.told("a star from an end", x, x.tour(1), 4, 2);
        c.told("again", x, x.tour(0), 5, 1);
        BumpMap y = Check.landed("n3");
        c.told("no roads", y, y.tour(2), 0, 2);
        BumpMap z = Check.landed("n4 r011 r231");
        c.due("in two parts", z.tour(0), NONE);
        BumpMap s = Check.landed("n2 t010");
        c.told("steps", s, s.tour(0), 1, 1);
        c.due("not up", s.tour(1), NONE);
        c.due("asked stays", s.asked(), 1);
        c.due("tour BAD", s.tour(2), BAD);
        c.due("tour BAD", s.tour(-1), BAD);
        BumpMap t = Check.landed("n2 t010 t010");
        c.due("steps twice", t.tour(0), NONE);
        BumpMap w = Check.landed("n7 t010 t120 t230 t340 t450 t560 t600 t000 t110 t660");
        c.told("a ring with rounds", w, w.tour(0), 10, 0);
        c.told("a ring from amid", w, w.tour(3), 10, 3);
    }

    private static void pave() {
        BumpMap x = Check.landed("n2 r013 s014 p010 f010 t010 v010");
        x.go(0);
        c.due("pave a road", x.pave(0), 3);
        c.told("its kind", x, x.road(0, 0), 1, 1);
        c.told("its jolt stays", x, x.road(0, 3), 1, 3);
        c.told("it is not felt", x, x.road(0, 4), 1, 0);
        c.due("what was felt stays", x.felt(0), 3);
        c.due("unpaved it would be", x.mark(0, 1), 3);
        x.wheels(2);
        c.due("pave a stony one", x.pave(1), 4);
        c.due("paved ones", x.count(3), 4);
        c.due("stony ones", x.count(4), 1);
        for (int i = 0; i < 6; i++) c.due("no more " + i, x.pave(i), STATE);
        c.due("pave BAD", x.pave(6), BAD);
        c.due("pave BAD", x.pave(-1), BAD);
    }

    private static void loss() {
        BumpMap x = Check.landed("n4 r021 p130 f010 t013 v020");
        long before = x.digest();
        for (int i = 1; i < 5; i++) c.due("it can't be " + i, x.loss(i), STATE);
        c.due("loss BAD", x.loss(5), BAD);
        c.due("loss BAD", x.loss(-1), BAD);
        BumpMap y = Check.landed("n4 r021 p130");
        c.due("four pairs", y.loss(0), 4);
        c.due("again", y.loss(0), 4);
        c.told("nothing is paved", y, y.unlike(), 2, 5);
        y.pave(0);
        c.told("now it is", y, y.unlike(), 1, 15);
        BumpMap z = Check.landed("n4 s021 r130");
        c.due("no loss", z.loss(1), 0);
        c.due("a stony one's", z.loss(0), 4);
        x.loss(0);
        c.due("loss changes nothing", x.digest(), before);
    }

    private static void best() {
        BumpMap x = Check.landed("n6 r021 p130 r452 r453");
        c.told("best", x, x.best(), 2, 0);
        x.pave(2);
        c.told("then", x, x.best(), 0, 4);
        BumpMap y = Check.landed("n4 r021 p130");
        c.told("its loss", y, y.best(), 0, 4);
        y.pave(0);
        c.due("none can be", y.best(), NONE);
        c.due("asked stays", y.asked(), 4);
        c.due("none in no land", new BumpMap().best(), NONE);
        c.due("none of the others", Check.landed("n2 p010 f010 t010 v010").best(), NONE);
    }
}
