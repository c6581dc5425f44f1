import java.util.Arrays;

/** A land drawn from the bumps: its roads are known by what a cart feels on them. */
public final class BumpMap {
    public static final int BAD = -1, FULL = -2, FINDING = -3, STATE = -4, SPENT = -6, NONE = -9;

    private static final int NOTHING = 1, BEYOND = 2, UNLIKE = 3, NOUGHT = 4, SIZE = 5;
    private static final int FINDINGS_MOST = 5;
    private static final int FINE = 0;
    private static final int TOLD = 1;

    private static final int ROW_COUNT = 6, ROW_MOST = 40;
    private static final int TEXT_COUNT = 4, TEXT_MOST = 80;
    private static final int PLACES_MOST = 7, ROADS_MOST = 10, JOLT_MOST = 9;
    private static final int WHEELS_MOST = 3, DRIVE_MOST = 40, KEPT_COUNT = 3;
    private static final int NUMBERS = 10, FELT_MOST = 16, NEXT_MOST = 15;
    private static final int MARKS_MOST = 6, ROUND_MOST = 14, LOTS_MOST = 40;
    private static final int COUNTS = 8, ROAD_FACTS = 5;

    private static final int ROAD = 0, PAVED = 1, STONY = 2, FORD = 3, STEPS = 4, AVENUE = 5;
    private static final int[] KIND_LETTERS = {114, 112, 115, 102, 116, 118};
    private static final int SIZE_LETTER = 110, BLANK = 32, NOUGHT_FIGURE = 48;
    private static final int FORD_FEELS = 9, AVENUE_FEELS = 1, PAVED_FEELS = 0;

    private static final int NO_PLACE = -1, NO_ROAD = -1, NO_FIGURE = -1, ANY_NUMBER = -1;
    private static final int PUT_OFFSET = 1000;
    private static final long LOT_FACTOR = 48271L, LOT_MODULUS = 2147483647L;

    private final Cells[] rows = new Cells[ROW_COUNT];
    private final Cells[] texts = new Cells[TEXT_COUNT];
    private final Reader reader = new Reader();
    private final Drive drive = new Drive();
    private final Drive[] kept = new Drive[KEPT_COUNT];
    private final Sense sense = new Sense();
    private final Sense trial = new Sense();
    private final Tally tally = new Tally();
    private final Costs costs = new Costs();
    private final Pairs pairs = new Pairs();
    private final int[] trail = new int[ROW_MOST];
    private final int[] findingTimes = new int[FINDINGS_MOST + 1];
    private Land land = new Land();
    private Tours tours;
    private int wheelCount = 1;
    private int lastAsked;
    private long lastUpper;
    private long lastLower = 1;
    private int lastFinding;

    public BumpMap() {
        for (int r = 0; r < ROW_COUNT; r++) {
            rows[r] = new Cells(ROW_MOST);
        }
        for (int t = 0; t < TEXT_COUNT; t++) {
            texts[t] = new Cells(TEXT_MOST);
        }
        for (int k = 0; k < KEPT_COUNT; k++) {
            kept[k] = new Drive();
        }
    }

    // ---- 1 rows, texts, lands

    public int row(int r, int n) {
        if (!isRow(r) || n > ROW_MOST) {
            return BAD;
        }
        if (n < 0) {
            return found(SIZE);
        }
        rows[r].renew(n, 0);
        return n;
    }

    public int lay(int r, int i, int v) {
        if (!isRow(r)) {
            return BAD;
        }
        int refused = refusedCell(rows[r], i);
        if (refused != FINE) {
            return refused;
        }
        int old = rows[r].valueAt(i);
        rows[r].change(i, v);
        return toldByAsked(old);
    }

    public int at(int r, int i) {
        if (!isRow(r)) {
            return BAD;
        }
        int refused = refusedCell(rows[r], i);
        if (refused != FINE) {
            return refused;
        }
        return toldByAsked(rows[r].valueAt(i));
    }

    public int tear(int r) {
        if (!isRow(r)) {
            return BAD;
        }
        if (!rows[r].there) {
            return found(NOTHING);
        }
        rows[r].drop();
        return TOLD;
    }

    public int copy(int r, int i, int to, int j, int n) {
        if (!isRow(r) || !isRow(to)) {
            return BAD;
        }
        if (n < 0) {
            return found(SIZE);
        }
        if (!rows[r].there || !rows[to].there) {
            return found(NOTHING);
        }
        if (!rows[r].spans(i, n) || !rows[to].spans(j, n)) {
            return found(BEYOND);
        }
        System.arraycopy(rows[r].values, i, rows[to].values, j, n);
        return TOLD;
    }

    public int mean(int r) {
        if (!isRow(r)) {
            return BAD;
        }
        if (!rows[r].there) {
            return found(NOTHING);
        }
        int size = rows[r].size;
        if (size == 0) {
            return found(NOUGHT);
        }
        return toldByAsked((int) (rows[r].sum() / size));
    }

    public int text(int t, int n) {
        if (!isText(t) || n > TEXT_MOST) {
            return BAD;
        }
        if (n < 0) {
            return found(SIZE);
        }
        texts[t].renew(n, BLANK);
        return n;
    }

    public int put(int t, int i, int v) {
        if (!isText(t)) {
            return BAD;
        }
        int refused = refusedCell(texts[t], i);
        if (refused != FINE) {
            return refused;
        }
        int old = texts[t].valueAt(i);
        texts[t].change(i, (byte) v);
        return old + PUT_OFFSET;
    }

    public int fault(int t) {
        if (!isText(t)) {
            return BAD;
        }
        if (!texts[t].there) {
            return found(NOTHING);
        }
        return reader.read(texts[t]);
    }

    public int land(int t) {
        if (!isText(t)) {
            return BAD;
        }
        if (!texts[t].there) {
            return found(NOTHING);
        }
        if (reader.read(texts[t]) != NONE) {
            return STATE;
        }
        land = reader.swapDraft(land);
        drive.restart(0);
        for (int k = 0; k < KEPT_COUNT; k++) {
            kept[k].there = false;
        }
        senseAnew();
        return land.roads;
    }

    public int road(int i, int what) {
        if (!land.hasRoad(i) || what < 0 || what >= ROAD_FACTS) {
            return BAD;
        }
        return toldByAsked(roadFact(i, what));
    }

    public int mark(int i, int kind) {
        if (!land.hasRoad(i) || kind < PAVED || kind > AVENUE) {
            return BAD;
        }
        if (!land.isOf(i, kind)) {
            return found(UNLIKE);
        }
        switch (kind) {
            case PAVED:
                return shared(land.jolt[i], wheelCount);
            case STONY:
                return sense.roadsFeelingLike(sense.feel[i], land.roads) - 1;
            case FORD:
                return land.roadsAtEndsOf(i);
            case STEPS:
                return land.other[i];
            default:
                return land.roadsOf(AVENUE);
        }
    }

    public int wheels(int w) {
        if (w < 1 || w > WHEELS_MOST) {
            return BAD;
        }
        int old = wheelCount;
        wheelCount = w;
        senseAnew();
        return old;
    }

    public int from(int p) {
        if (!land.hasPlace(p)) {
            return BAD;
        }
        lastAsked = land.placesFrom(p);
        return land.roadsFrom(p);
    }

    // ---- 2 drives

    public int begin(int p) {
        if (!land.hasPlace(p)) {
            return BAD;
        }
        drive.restart(p);
        return Integer.bitCount(land.roadsFrom(p));
    }

    public int go(int i) {
        if (!land.hasRoad(i)) {
            return BAD;
        }
        int to = land.lead(i, drive.place);
        if (to == NO_PLACE) {
            return STATE;
        }
        if (drive.isFull()) {
            return FULL;
        }
        drive.extend(i, sense.feel[i], to);
        lastAsked = to;
        return sense.feel[i];
    }

    public int here() {
        if (land.places == 0) {
            return STATE;
        }
        lastAsked = drive.size;
        return drive.place;
    }

    public int felt(int k) {
        if (k < 0) {
            return BAD;
        }
        if (!drive.hasStep(k)) {
            return found(BEYOND);
        }
        lastAsked = drive.roads[k];
        return drive.feelings[k];
    }

    public int undo(int k) {
        if (k < 0 || k > drive.size) {
            return BAD;
        }
        int undone = drive.size - k;
        drive.cutTo(k, land);
        return undone;
    }

    public int tell(int r) {
        if (!isRow(r)) {
            return BAD;
        }
        rows[r].take(drive.feelings, drive.size);
        return drive.size;
    }

    public int keep(int k) {
        if (!isKept(k)) {
            return BAD;
        }
        if (land.places == 0) {
            return STATE;
        }
        kept[k].become(drive);
        kept[k].there = true;
        return drive.size;
    }

    public int on(int k) {
        if (!isKept(k)) {
            return BAD;
        }
        if (!kept[k].there) {
            return found(NOTHING);
        }
        drive.become(kept[k]);
        return drive.size;
    }

    public int feels(int r, int p, int to) {
        if (!isRow(r) || !land.hasPlace(p) || !isRow(to)) {
            return BAD;
        }
        if (!rows[r].there) {
            return found(NOTHING);
        }
        if (!rows[r].within(0, land.roads - 1)) {
            return found(UNLIKE);
        }
        int place = p;
        int went = 0;
        for (int k = 0; k < rows[r].size; k++) {
            int i = rows[r].valueAt(k);
            int led = land.lead(i, place);
            if (led == NO_PLACE) {
                break;
            }
            trail[k] = sense.feel[i];
            place = led;
            went++;
        }
        rows[to].take(trail, went);
        lastAsked = place;
        return went;
    }

    // ---- 3 from rows to drives

    public int drives(int r, int p) {
        if (!isRow(r) || !land.hasPlace(p)) {
            return BAD;
        }
        int refused = refusedFelt(rows[r], FELT_MOST);
        if (refused != FINE) {
            return refused;
        }
        tally.start(p);
        for (int k = 0; k < rows[r].size; k++) {
            tally.advance(land, sense, rows[r].valueAt(k));
        }
        return toldByUpper(tally.total());
    }

    public int ends(int r, int p) {
        if (!isRow(r) || !land.hasPlace(p)) {
            return BAD;
        }
        int refused = refusedFelt(rows[r], FELT_MOST);
        if (refused != FINE) {
            return refused;
        }
        return sense.reached(rows[r], 1 << p);
    }

    public int first(int r, int p, int to) {
        if (!isRow(r) || !land.hasPlace(p) || !isRow(to)) {
            return BAD;
        }
        int refused = refusedFelt(rows[r], FELT_MOST);
        if (refused != FINE) {
            return refused;
        }
        if (sense.reached(rows[r], 1 << p) == 0) {
            return NONE;
        }
        int place = p;
        int size = rows[r].size;
        for (int k = 0; k < size; k++) {
            int i = firstRoadOn(rows[r], k, place);
            if (i == NO_ROAD) {
                return NONE;
            }
            trail[k] = i;
            place = land.lead(i, place);
        }
        rows[to].take(trail, size);
        return place;
    }

    public int where(int r) {
        if (!isRow(r)) {
            return BAD;
        }
        int refused = refusedFelt(rows[r], FELT_MOST);
        if (refused != FINE) {
            return refused;
        }
        lastAsked = sense.begun(rows[r], 0, land.allPlaces());
        return sense.reached(rows[r], land.allPlaces());
    }

    public int slips(int r, int p) {
        if (!isRow(r) || !land.hasPlace(p)) {
            return BAD;
        }
        int refused = refusedFelt(rows[r], FELT_MOST);
        if (refused != FINE) {
            return refused;
        }
        costs.start(p);
        for (int k = 0; k < rows[r].size; k++) {
            costs.advance(land, sense, rows[r].valueAt(k));
        }
        int end = costs.cheapest();
        if (end == NO_PLACE) {
            return NONE;
        }
        lastAsked = end;
        return costs.now[end];
    }

    public int next(int r) {
        if (!isRow(r)) {
            return BAD;
        }
        int refused = refusedFelt(rows[r], NEXT_MOST);
        if (refused != FINE) {
            return refused;
        }
        int set = sense.reached(rows[r], land.allPlaces());
        int best = NONE;
        int fewest = PLACES_MOST + 1;
        for (int v = 0; v < NUMBERS; v++) {
            int left = Integer.bitCount(sense.step(set, v));
            if (left > 0 && left < fewest) {
                fewest = left;
                best = v;
            }
        }
        if (best != NONE) {
            lastAsked = fewest;
        }
        return best;
    }

    // ---- 4 what feels alike

    public int apart(int p, int q) {
        if (!land.hasPlace(p) || !land.hasPlace(q)) {
            return BAD;
        }
        int length = pairs.tellApart(sense, p, q);
        if (length != NONE) {
            lastAsked = pairs.goesFromFirst ? p : q;
        }
        return length;
    }

    public int unlike() {
        if (land.places == 0) {
            return STATE;
        }
        pairs.group(sense, land.places, pairs.groups);
        int unlike = 0;
        int likeFirst = 0;
        for (int p = 0; p < land.places; p++) {
            if (pairs.groups[p] == p) {
                unlike++;
            }
            if (pairs.groups[p] == 0) {
                likeFirst |= 1 << p;
            }
        }
        lastAsked = likeFirst;
        return unlike;
    }

    public int look(int set) {
        if ((set & ~land.allPlaces()) != 0) {
            return BAD;
        }
        int left = set;
        int groups = 0;
        int greatest = 0;
        for (int p = 0; p < land.places; p++) {
            if ((left & 1 << p) != 0) {
                int group = left & sense.placesLooking(sense.looksOf(p));
                left &= ~group;
                groups++;
                if (Integer.bitCount(group) > Integer.bitCount(greatest)) {
                    greatest = group;
                }
            }
        }
        lastAsked = greatest;
        return groups;
    }

    public int marks(int r) {
        if (!isRow(r)) {
            return BAD;
        }
        int refused = refusedFelt(rows[r], MARKS_MOST);
        if (refused != FINE) {
            return refused;
        }
        int ways = 1;
        int always = 0;
        for (int v = 0; v < NUMBERS; v++) {
            int wanted = rows[r].timesOf(v);
            int there = sense.roadsFeelingLike(v, land.roads);
            for (int n = 0; n < wanted; n++) {
                ways *= Math.max(there - n, 0);
            }
            if (wanted == there) {
                always |= sense.roadBitsFeelingLike(v, land.roads);
            }
        }
        lastAsked = ways == 0 ? 0 : always;
        return ways;
    }

    // ---- 5 ways, rounds, paving

    public int way(int p, int q) {
        if (!land.hasPlace(p) || !land.hasPlace(q)) {
            return BAD;
        }
        costs.start(p);
        costs.spread(land, sense);
        if (costs.now[q] == Costs.NEVER) {
            return NONE;
        }
        lastAsked = costs.now[q] % Costs.SUM_UNIT;
        return costs.now[q] / Costs.SUM_UNIT;
    }

    public int rounds(int p, int k) {
        if (!land.hasPlace(p) || k < 0 || k > ROUND_MOST) {
            return BAD;
        }
        tally.start(p);
        for (int n = 0; n < k; n++) {
            tally.advance(land, sense, ANY_NUMBER);
        }
        return toldByUpper(tally.now[p]);
    }

    public int tour(int p) {
        if (!land.hasPlace(p)) {
            return BAD;
        }
        if (tours == null) {
            tours = new Tours();
        }
        int length = tours.shortest(land, p);
        if (length != NONE) {
            lastAsked = tours.end;
        }
        return length;
    }

    public int pave(int i) {
        if (!land.hasRoad(i)) {
            return BAD;
        }
        if (!land.canPave(i)) {
            return STATE;
        }
        int old = sense.feel[i];
        land.kind[i] = PAVED;
        senseAnew();
        return old;
    }

    public int loss(int i) {
        if (!land.hasRoad(i)) {
            return BAD;
        }
        if (!land.canPave(i)) {
            return STATE;
        }
        pairs.group(sense, land.places, pairs.groups);
        return lossAgainstGroups(i);
    }

    public int best() {
        pairs.group(sense, land.places, pairs.groups);
        int best = NONE;
        int least = 0;
        for (int i = 0; i < land.roads; i++) {
            if (land.canPave(i)) {
                int lost = lossAgainstGroups(i);
                if (best == NONE || lost < least) {
                    best = i;
                    least = lost;
                }
            }
        }
        if (best != NONE) {
            lastAsked = least;
        }
        return best;
    }

    public int lots(int n, int seed) {
        if (n < 1 || n > LOTS_MOST || seed < 1 || seed >= LOT_MODULUS) {
            return BAD;
        }
        if (land.places == 0) {
            return STATE;
        }
        long lot = seed;
        int went = 0;
        for (int k = 0; k < n; k++) {
            int open = land.roadsFrom(drive.place);
            int choices = Integer.bitCount(open);
            if (choices == 0 || drive.isFull()) {
                break;
            }
            lot = lot * LOT_FACTOR % LOT_MODULUS;
            int i = bitNumber(open, (int) (lot % choices));
            if (!land.hasRoad(i)) {
                break;
            }
            drive.extend(i, sense.feel[i], land.lead(i, drive.place));
            went++;
        }
        return went;
    }

    // ---- 6 what is told

    public int asked() {
        return lastAsked;
    }

    public long upper() {
        return lastUpper;
    }

    public long lower() {
        return lastLower;
    }

    public int count(int what) {
        switch (what) {
            case 0:
                return land.places;
            case 1:
                return land.roads;
            case 2:
                return drive.size;
            case 3:
                return land.roadsOf(PAVED);
            case 4:
                return land.roadsOf(STONY);
            case 5:
                return keptThere();
            case 6:
                return cellsThere(rows);
            case 7:
                return cellsThere(texts);
            default:
                return BAD;
        }
    }

    public int finding() {
        return lastFinding;
    }

    public int findings(int f) {
        if (f < 1 || f > FINDINGS_MOST) {
            return BAD;
        }
        return findingTimes[f];
    }

    public long digest() {
        long h = 17;
        for (int what = 0; what < COUNTS; what++) {
            h = mix(h, count(what));
        }
        h = mix(h, wheelCount);
        for (int i = 0; i < land.roads; i++) {
            for (int what = 0; what < ROAD_FACTS; what++) {
                h = mix(h, roadFact(i, what));
            }
        }
        h = drive.mixInto(mix(h, drive.place));
        for (int k = 0; k < KEPT_COUNT; k++) {
            h = mix(h, kept[k].there ? kept[k].size : -1);
        }
        for (int r = 0; r < ROW_COUNT; r++) {
            h = rows[r].mixInto(h);
        }
        for (int t = 0; t < TEXT_COUNT; t++) {
            h = texts[t].mixInto(h);
        }
        return h;
    }

    // ---- what several calls share

    private static boolean isRow(int r) {
        return r >= 0 && r < ROW_COUNT;
    }

    private static boolean isText(int t) {
        return t >= 0 && t < TEXT_COUNT;
    }

    private static boolean isKept(int k) {
        return k >= 0 && k < KEPT_COUNT;
    }

    private int found(int f) {
        if (f >= 1 && f <= FINDINGS_MOST) {
            lastFinding = f;
            findingTimes[f]++;
        }
        return FINDING;
    }

    private int toldByAsked(int v) {
        lastAsked = v;
        return TOLD;
    }

    private int toldByUpper(long v) {
        lastUpper = v;
        lastLower = 1;
        return TOLD;
    }

    private int refusedCell(Cells cells, int i) {
        if (!cells.there) {
            return found(NOTHING);
        }
        return cells.has(i) ? FINE : found(BEYOND);
    }

    private int refusedFelt(Cells row, int most) {
        if (!row.there) {
            return found(NOTHING);
        }
        if (row.size > most) {
            return found(SIZE);
        }
        return row.within(0, NUMBERS - 1) ? FINE : found(UNLIKE);
    }

    private void senseAnew() {
        sense.learn(land, wheelCount, NO_ROAD);
    }

    private int roadFact(int i, int what) {
        if (!land.hasRoad(i)) {
            return 0;
        }
        switch (what) {
            case 0:
                return land.kind[i];
            case 1:
                return land.one[i];
            case 2:
                return land.other[i];
            case 3:
                return land.jolt[i];
            default:
                return sense.feel[i];
        }
    }

    /** The first ROAD that feels like number k of a ROW and from whose end the rest can be driven. */
    private int firstRoadOn(Cells row, int k, int place) {
        int good = sense.begun(row, k + 1, land.allPlaces());
        for (int i = 0; i < land.roads; i++) {
            int to = land.lead(i, place);
            if (to != NO_PLACE && sense.feel[i] == row.valueAt(k) && (good & 1 << to) != 0) {
                return i;
            }
        }
        return NO_ROAD;
    }

    /** The loss of a ROAD, with pairs.groups told for the LAND as it is. */
    private int lossAgainstGroups(int i) {
        trial.learn(land, wheelCount, i);
        pairs.group(trial, land.places, pairs.trialGroups);
        int lost = 0;
        for (int p = 0; p < land.places; p++) {
            for (int q = 0; q < p; q++) {
                if (pairs.groups[p] != pairs.groups[q] && pairs.trialGroups[p] == pairs.trialGroups[q]) {
                    lost++;
                }
            }
        }
        return lost;
    }

    private int keptThere() {
        int n = 0;
        for (int k = 0; k < KEPT_COUNT; k++) {
            if (kept[k].there) {
                n++;
            }
        }
        return n;
    }

    private static int cellsThere(Cells[] cells) {
        int n = 0;
        for (int c = 0; c < cells.length; c++) {
            if (cells[c].there) {
                n++;
            }
        }
        return n;
    }

    private static long mix(long h, long v) {
        return 31 * h + v;
    }

    private static int shared(int v, int wheelCount) {
        return wheelCount > 0 ? v / wheelCount : v;
    }

    /** The place of bit number n (from 0) of those that are set in a set of ROADS or PLACES. */
    private static int bitNumber(int set, int n) {
        int ahead = 0;
        for (int b = 0; b < ROADS_MOST; b++) {
            if ((set & 1 << b) != 0) {
                if (ahead == n) {
                    return b;
                }
                ahead++;
            }
        }
        return NO_ROAD;
    }

    /** A ROW or a TEXT: its cells are made once, for every size that it may have. */
    private static final class Cells {
        final int[] values;
        boolean there;
        int size;

        Cells(int most) {
            values = new int[Math.max(most, 0)];
        }

        void renew(int n, int value) {
            size = Math.max(0, Math.min(n, values.length));
            Arrays.fill(values, value);
            there = true;
        }

        void take(int[] source, int n) {
            renew(Math.min(n, source.length), 0);
            System.arraycopy(source, 0, values, 0, size);
        }

        void drop() {
            there = false;
            size = 0;
        }

        boolean has(int i) {
            return i >= 0 && i < size;
        }

        int valueAt(int i) {
            return has(i) ? values[i] : 0;
        }

        void change(int i, int v) {
            if (has(i)) {
                values[i] = v;
            }
        }

        /** Whether n cells stand from i on; told by what is left, as i + n may wrap around. */
        boolean spans(int i, int n) {
            return i >= 0 && i <= size && n <= size - i;
        }

        boolean within(int least, int most) {
            for (int i = 0; i < size; i++) {
                if (values[i] < least || values[i] > most) {
                    return false;
                }
            }
            return true;
        }

        int timesOf(int v) {
            int n = 0;
            for (int i = 0; i < size; i++) {
                if (values[i] == v) {
                    n++;
                }
            }
            return n;
        }

        long sum() {
            long s = 0;
            for (int i = 0; i < size; i++) {
                s += values[i];
            }
            return s;
        }

        long mixInto(long start) {
            long h = mix(start, there ? size : -1);
            for (int i = 0; i < size; i++) {
                h = mix(h, values[i]);
            }
            return h;
        }
    }

    /** PLACES and the ROADS between them. */
    private static final class Land {
        final int[] kind = new int[ROADS_MOST];
        final int[] one = new int[ROADS_MOST];
        final int[] other = new int[ROADS_MOST];
        final int[] jolt = new int[ROADS_MOST];
        int places;
        int roads;

        void clear() {
            places = 0;
            roads = 0;
        }

        void add(int newKind, int newOne, int newOther, int newJolt) {
            if (roads < ROADS_MOST) {
                kind[roads] = newKind;
                one[roads] = newOne;
                other[roads] = newOther;
                jolt[roads] = newJolt;
                roads++;
            }
        }

        boolean hasPlace(int p) {
            return p >= 0 && p < places;
        }

        boolean hasRoad(int i) {
            return i >= 0 && i < roads;
        }

        int allPlaces() {
            return (1 << places) - 1;
        }

        /** The PLACE to which a ROAD leads from a PLACE, NO_PLACE if it can't be driven from there. */
        int lead(int i, int p) {
            if (!hasRoad(i)) {
                return NO_PLACE;
            }
            if (one[i] == p) {
                return other[i];
            }
            return other[i] == p && kind[i] != STEPS ? one[i] : NO_PLACE;
        }

        /** PLACES to which a ROAD leads from a set of PLACES. */
        int leadAll(int i, int set) {
            if (!hasRoad(i)) {
                return 0;
            }
            int reached = 0;
            if ((set & 1 << one[i]) != 0) {
                reached |= 1 << other[i];
            }
            if ((set & 1 << other[i]) != 0 && kind[i] != STEPS) {
                reached |= 1 << one[i];
            }
            return reached;
        }

        int roadsFrom(int p) {
            int set = 0;
            for (int i = 0; i < roads; i++) {
                if (lead(i, p) != NO_PLACE) {
                    set |= 1 << i;
                }
            }
            return set;
        }

        int placesFrom(int p) {
            int set = 0;
            for (int i = 0; i < roads; i++) {
                int to = lead(i, p);
                if (to != NO_PLACE) {
                    set |= 1 << to;
                }
            }
            return set;
        }

        boolean isOf(int i, int wanted) {
            if (!hasRoad(i)) {
                return false;
            }
            int k = kind[i];
            return wanted == k
                || wanted == PAVED && k == AVENUE
                || wanted == STONY && k == STEPS;
        }

        int roadsOf(int wanted) {
            int n = 0;
            for (int i = 0; i < roads; i++) {
                if (isOf(i, wanted)) {
                    n++;
                }
            }
            return n;
        }

        int roadsAtEndsOf(int f) {
            if (!hasRoad(f)) {
                return 0;
            }
            int n = 0;
            for (int i = 0; i < roads; i++) {
                if (touches(i, one[f]) || touches(i, other[f])) {
                    n++;
                }
            }
            return n;
        }

        boolean touches(int i, int p) {
            return hasRoad(i) && (one[i] == p || other[i] == p);
        }

        boolean canPave(int i) {
            return hasRoad(i) && (kind[i] == ROAD || kind[i] == STONY);
        }

        int feelOf(int i, int wheelCount) {
            if (!hasRoad(i)) {
                return 0;
            }
            switch (kind[i]) {
                case PAVED:
                    return PAVED_FEELS;
                case STONY:
                case STEPS:
                    return shared(Math.min(2 * jolt[i], JOLT_MOST), wheelCount);
                case FORD:
                    return FORD_FEELS;
                case AVENUE:
                    return AVENUE_FEELS;
                default:
                    return shared(jolt[i], wheelCount);
            }
        }
    }

    /** Reads a TEXT into a draft, so that a FAULT leaves the LAND as it was. */
    private static final class Reader {
        private Land draft = new Land();
        private Cells source;
        private int place;

        /** The FAULT, or NONE: then the draft is what the TEXT tells. */
        int read(Cells text) {
            source = text;
            place = 0;
            draft.clear();
            skipBlanks();
            if (!readSize()) {
                return place;
            }
            for (int n = 0; n <= ROADS_MOST; n++) {
                skipBlanks();
                if (place >= source.size) {
                    return NONE;
                }
                if (!readRoad()) {
                    return place;
                }
            }
            return place;
        }

        /** Hands the draft out as the LAND; the old one is written over by the next draft. */
        Land swapDraft(Land old) {
            Land ready = draft;
            draft = old;
            return ready;
        }

        private void skipBlanks() {
            while (place < source.size && source.valueAt(place) == BLANK) {
                place++;
            }
        }

        private boolean readSize() {
            if (place >= source.size || source.valueAt(place) != SIZE_LETTER) {
                return false;
            }
            place++;
            int n = readFigure(1, PLACES_MOST);
            if (n == NO_FIGURE) {
                return false;
            }
            draft.places = n;
            return true;
        }

        private boolean readRoad() {
            int kind = kindHere();
            if (kind == NO_ROAD || draft.roads >= ROADS_MOST) {
                return false;
            }
            place++;
            int one = readFigure(0, draft.places - 1);
            if (one == NO_FIGURE) {
                return false;
            }
            int other = readFigure(0, draft.places - 1);
            if (other == NO_FIGURE) {
                return false;
            }
            int jolt = readFigure(0, JOLT_MOST);
            if (jolt == NO_FIGURE) {
                return false;
            }
            draft.add(kind, one, other, jolt);
            return true;
        }

        private int kindHere() {
            for (int k = 0; k < KIND_LETTERS.length; k++) {
                if (source.valueAt(place) == KIND_LETTERS[k]) {
                    return k;
                }
            }
            return NO_ROAD;
        }

        private int readFigure(int least, int most) {
            if (place >= source.size) {
                return NO_FIGURE;
            }
            int figure = source.valueAt(place) - NOUGHT_FIGURE;
            if (figure < least || figure > most) {
                return NO_FIGURE;
            }
            place++;
            return figure;
        }
    }

    /** What a CART feels in a LAND, in tables, as the searches ask for it again and again. */
    private static final class Sense {
        final int[] feel = new int[ROADS_MOST];
        private final int[] leads = new int[PLACES_MOST * NUMBERS];

        /** Learns a LAND, one of whose ROADS (or NO_ROAD) is taken as if it were paved. */
        void learn(Land land, int wheelCount, int paved) {
            Arrays.fill(feel, 0);
            Arrays.fill(leads, 0);
            for (int i = 0; i < land.roads; i++) {
                feel[i] = i == paved ? PAVED_FEELS : land.feelOf(i, wheelCount);
                for (int p = 0; p < land.places; p++) {
                    int to = land.lead(i, p);
                    if (to != NO_PLACE) {
                        addLead(p, feel[i], to);
                    }
                }
            }
        }

        private void addLead(int p, int number, int to) {
            if (p >= 0 && p < PLACES_MOST && number >= 0 && number < NUMBERS) {
                leads[p * NUMBERS + number] |= 1 << to;
            }
        }

        private int leadsBy(int p, int number) {
            if (p < 0 || p >= PLACES_MOST || number < 0 || number >= NUMBERS) {
                return 0;
            }
            return leads[p * NUMBERS + number];
        }

        /** PLACES to which a number leads from a set of PLACES. */
        int step(int set, int number) {
            if (number < 0 || number >= NUMBERS) {
                return 0;
            }
            int reached = 0;
            for (int p = 0; p < PLACES_MOST; p++) {
                if ((set & 1 << p) != 0) {
                    reached |= leads[p * NUMBERS + number];
                }
            }
            return reached;
        }

        /** PLACES at which one can be by a FELT ROW from a set of PLACES. */
        int reached(Cells row, int set) {
            int now = set;
            for (int k = 0; k < row.size; k++) {
                now = step(now, row.valueAt(k));
            }
            return now;
        }

        /** PLACES from which a FELT ROW can be driven from its number k on, among all PLACES. */
        int begun(Cells row, int k, int all) {
            int good = all;
            for (int n = row.size - 1; n >= k; n--) {
                int ahead = 0;
                for (int p = 0; p < PLACES_MOST; p++) {
                    if ((leadsBy(p, row.valueAt(n)) & good) != 0) {
                        ahead |= 1 << p;
                    }
                }
                good = ahead;
            }
            return good;
        }

        /** Numbers (bits) that can be felt from a PLACE. */
        int looksOf(int p) {
            int looks = 0;
            for (int v = 0; v < NUMBERS; v++) {
                if (leadsBy(p, v) != 0) {
                    looks |= 1 << v;
                }
            }
            return looks;
        }

        int placesLooking(int looks) {
            int set = 0;
            for (int p = 0; p < PLACES_MOST; p++) {
                if (looksOf(p) == looks) {
                    set |= 1 << p;
                }
            }
            return set;
        }

        int roadBitsFeelingLike(int number, int roads) {
            int set = 0;
            for (int i = 0; i < roads && i < ROADS_MOST; i++) {
                if (feel[i] == number) {
                    set |= 1 << i;
                }
            }
            return set;
        }

        int roadsFeelingLike(int number, int roads) {
            return Integer.bitCount(roadBitsFeelingLike(number, roads));
        }
    }

    /** A DRIVE: where it began, its ROADS and what they felt like when they were driven. */
    private static final class Drive {
        final int[] roads = new int[DRIVE_MOST];
        final int[] feelings = new int[DRIVE_MOST];
        boolean there;
        int start;
        int place;
        int size;

        void restart(int p) {
            start = p;
            place = p;
            size = 0;
        }

        boolean isFull() {
            return size >= DRIVE_MOST;
        }

        boolean hasStep(int k) {
            return k >= 0 && k < size;
        }

        void extend(int i, int feeling, int to) {
            if (!isFull()) {
                roads[size] = i;
                feelings[size] = feeling;
                place = to;
                size++;
            }
        }

        void cutTo(int k, Land land) {
            size = Math.max(0, Math.min(k, size));
            place = start;
            for (int n = 0; n < size; n++) {
                place = land.lead(roads[n], place);
            }
        }

        void become(Drive source) {
            start = source.start;
            place = source.place;
            size = source.size;
            System.arraycopy(source.roads, 0, roads, 0, DRIVE_MOST);
            System.arraycopy(source.feelings, 0, feelings, 0, DRIVE_MOST);
        }

        long mixInto(long before) {
            long h = before;
            for (int k = 0; k < size; k++) {
                h = mix(mix(h, roads[k]), feelings[k]);
            }
            return h;
        }
    }

    /** In how many DRIVES each PLACE is reached: 10 ROADS to the 16 stay far within a long. */
    private static final class Tally {
        long[] now = new long[PLACES_MOST];
        private long[] then = new long[PLACES_MOST];

        void start(int p) {
            Arrays.fill(now, 0);
            if (p >= 0 && p < PLACES_MOST) {
                now[p] = 1;
            }
        }

        /** One ROAD more, that feels like a number (or ANY_NUMBER). */
        void advance(Land land, Sense sense, int number) {
            Arrays.fill(then, 0);
            for (int i = 0; i < land.roads; i++) {
                if (number == ANY_NUMBER || sense.feel[i] == number) {
                    addBy(land, i);
                }
            }
            long[] old = now;
            now = then;
            then = old;
        }

        private void addBy(Land land, int i) {
            for (int p = 0; p < land.places; p++) {
                int to = land.lead(i, p);
                if (to != NO_PLACE) {
                    then[to] += now[p];
                }
            }
        }

        long total() {
            long sum = 0;
            for (int p = 0; p < PLACES_MOST; p++) {
                sum += now[p];
            }
            return sum;
        }
    }

    /** The least cost at which each PLACE is reached. */
    private static final class Costs {
        static final int NEVER = 1000000;
        /** A sum and a count of ROADS in one number: no smoothest way has 64 ROADS. */
        static final int SUM_UNIT = 64;

        int[] now = new int[PLACES_MOST];
        private int[] then = new int[PLACES_MOST];

        void start(int p) {
            Arrays.fill(now, NEVER);
            if (p >= 0 && p < PLACES_MOST) {
                now[p] = 0;
            }
        }

        /** One ROAD more; it costs a slip, if it does not feel like the number. */
        void advance(Land land, Sense sense, int number) {
            Arrays.fill(then, NEVER);
            for (int i = 0; i < land.roads; i++) {
                int slip = sense.feel[i] == number ? 0 : 1;
                lessen(land, i, slip, then);
            }
            int[] old = now;
            now = then;
            then = old;
        }

        /** Spreads the costs of ways over all PLACES: no smoothest way passes a PLACE twice. */
        void spread(Land land, Sense sense) {
            for (int n = 0; n < land.places; n++) {
                for (int i = 0; i < land.roads; i++) {
                    lessen(land, i, sense.feel[i] * SUM_UNIT + 1, now);
                }
            }
        }

        private void lessen(Land land, int i, int cost, int[] into) {
            for (int p = 0; p < land.places; p++) {
                int to = land.lead(i, p);
                if (to != NO_PLACE && now[p] != NEVER) {
                    into[to] = Math.min(into[to], now[p] + cost);
                }
            }
        }

        /** The first of the PLACES with the least cost, NO_PLACE if none is reached. */
        int cheapest() {
            int best = NO_PLACE;
            int least = NEVER;
            for (int p = 0; p < PLACES_MOST; p++) {
                if (now[p] < least) {
                    least = now[p];
                    best = p;
                }
            }
            return best;
        }
    }

    /**
     * Searches what tells PLACES apart, over pairs of sets of PLACES, shortest and first rows
     * ahead. Pairs that are joined by pairs met before are passed over: what would tell them
     * apart tells apart one of those, by a row that is shorter or comes first. So no more pairs
     * than sets are ever met.
     */
    private static final class Pairs {
        private static final int SETS = 1 << PLACES_MOST;

        final int[] groups = new int[PLACES_MOST];
        final int[] trialGroups = new int[PLACES_MOST];
        boolean goesFromFirst;
        private final int[] parents = new int[SETS];
        private final int[] firsts = new int[SETS];
        private final int[] seconds = new int[SETS];
        private int size;

        /** The length of the shortest row that can be driven from just one PLACE, or NONE. */
        int tellApart(Sense sense, int p, int q) {
            forget();
            meet(1 << p, 1 << q);
            int length = 1;
            int levelEnd = size;
            for (int head = 0; head < size && head < SETS; head++) {
                if (head == levelEnd) {
                    length++;
                    levelEnd = size;
                }
                if (partsAt(sense, head)) {
                    return length;
                }
            }
            return NONE;
        }

        /** Each PLACE's group is the first PLACE that is ALIKE to it. */
        void group(Sense sense, int places, int[] into) {
            for (int p = 0; p < places && p < into.length; p++) {
                into[p] = p;
                for (int q = 0; q < p; q++) {
                    if (into[q] == q && tellApart(sense, q, p) == NONE) {
                        into[p] = q;
                        break;
                    }
                }
            }
        }

        /** Whether a number goes from just one set of a pair; the pairs behind are met. */
        private boolean partsAt(Sense sense, int head) {
            for (int v = 0; v < NUMBERS; v++) {
                int a = sense.step(firsts[head], v);
                int b = sense.step(seconds[head], v);
                if ((a == 0) != (b == 0)) {
                    goesFromFirst = a != 0;
                    return true;
                }
                meet(a, b);
            }
            return false;
        }

        private void forget() {
            size = 0;
            for (int s = 0; s < SETS; s++) {
                parents[s] = s;
            }
        }

        private void meet(int a, int b) {
            int rootA = rootOf(a);
            int rootB = rootOf(b);
            if (rootA != rootB && size < SETS) {
                parents[rootA] = rootB;
                firsts[size] = a;
                seconds[size] = b;
                size++;
            }
        }

        private int rootOf(int set) {
            int s = set & SETS - 1;
            for (int n = 0; n < SETS && parents[s] != s; n++) {
                s = parents[s];
            }
            return s;
        }
    }

    /** Searches the shortest DRIVE over all ROADS, over PLACES (bits) by sets of ROADS driven. */
    private static final class Tours {
        private static final int SETS = 1 << ROADS_MOST;
        private static final int LENGTH_MOST = PLACES_MOST * SETS;

        int end;
        private final int[] seen = new int[SETS];
        private int[] now = new int[SETS];
        private int[] then = new int[SETS];

        /** The fewest ROADS, or NONE; where they end comes to end. */
        int shortest(Land land, int p) {
            int all = (1 << land.roads) - 1 & SETS - 1;
            Arrays.fill(seen, 0);
            Arrays.fill(now, 0);
            seen[0] = 1 << p;
            now[0] = 1 << p;
            boolean goesOn = true;
            for (int length = 0; length <= LENGTH_MOST && goesOn; length++) {
                if (now[all] != 0) {
                    end = bitNumber(now[all], 0);
                    return length;
                }
                goesOn = advance(land, all);
            }
            return NONE;
        }

        /** One ROAD more; whether that led to anything new. */
        private boolean advance(Land land, int all) {
            Arrays.fill(then, 0);
            boolean isNew = false;
            for (int set = 0; set <= all; set++) {
                if (now[set] != 0 && advanceFrom(land, set)) {
                    isNew = true;
                }
            }
            int[] old = now;
            now = then;
            then = old;
            return isNew;
        }

        private boolean advanceFrom(Land land, int set) {
            boolean isNew = false;
            for (int i = 0; i < land.roads; i++) {
                int driven = (set | 1 << i) & SETS - 1;
                int fresh = land.leadAll(i, now[set]) & ~seen[driven];
                seen[driven] |= fresh;
                then[driven] |= fresh;
                isNew |= fresh != 0;
            }
            return isNew;
        }
    }
}
