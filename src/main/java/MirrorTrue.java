import java.util.Arrays;

/**
 * A mirror in the making: its disc and aim, the tests of its steps, the tools that
 * wear it down, the rings that bear it, its shells that cool and the grits it is ground by.
 * What each call answers is told by ../shared/DOC.md.
 */
public final class MirrorTrue {
    public static final int BAD = -1, NO = -2, FULL = -3, NONE = -4;

    private static final int FEWEST_ZONES = 4;
    private static final int MOST_ZONES = 16;
    private static final int FIRST_ZONES = 8;
    private static final int MOST_HEIGHT = 100000;
    private static final int BAD_HEIGHT = -1000000;
    private static final int NO_HEIGHT = -1000002;
    private static final int FULL_HEIGHT = -1000003;

    private static final int LEAST_RADIUS = 100;
    private static final int MOST_RADIUS = 5000;
    private static final int MOST_ABOVE = 30;
    private static final int MOST_BELOW = 10;
    private static final int MOST_REACH = 200;
    private static final long BAD_DEPTH = -1000000000000000000L;

    private static final int TESTS = 3;
    private static final int MOST_STEPS = MOST_ZONES - 1;
    private static final int MOST_READING = 1000;
    private static final int MOST_LIE = 50;
    private static final int MOST_SHIFT = 20;
    private static final int GAP = 5000;
    private static final int BAD_READING = 10000;
    private static final int BAD_JOINED = -100;
    private static final int NO_PROFILE = 1000000;
    private static final int BAD_PROFILE = 2000000;
    private static final int MOST_WIRES = 12;
    private static final int MOST_TOLD = 100000;

    private static final int TOOLS = 3;
    private static final int REACH = 2;
    private static final int PULLED = 2 * REACH + 1;
    private static final int MOST_PULL = 50;
    private static final int MOST_REST = 10000;
    private static final int MOST_MINUTES = 20;
    private static final int MOST_PLANNED = 5;
    private static final int MOST_STROKES = 60;

    private static final int RINGS = 6;
    private static final int SAG = RINGS;
    private static final int MOST_BEND = 500;
    private static final int TWELFTHS = 12;
    private static final int MOST_BEARING = 3;
    private static final int BAD_BEND = -1000;

    private static final int SHELLS = 8;
    private static final int AIR = SHELLS;
    private static final int MOST_WARMTH = 100000;
    private static final int MOST_COOLED = 1000;
    private static final int MOST_TRIED = 2000;
    private static final int MOST_APART = 100000;
    private static final int BAD_WARMTH = -1000000;

    private static final int MOST_GRITS = 6;
    private static final int MOST_TAKEN = 100;
    private static final int MOST_PITS = 200;
    private static final int MOST_WETS = 30;
    private static final int MOST_DEPTH = 2000;
    private static final int MOST_SLACK = 100;

    private final Curve curve = new Curve();
    private final Knives knives = new Knives();
    private final Wires held = new Wires(knives);
    private final Bench bench = new Bench();
    private final Planner planner = new Planner(bench);
    private final Rings pads = new Rings();
    private final Shells glass = new Shells();
    private final Grits grits = new Grits();
    private int zones = FIRST_ZONES;

    public MirrorTrue() {
    }

    // ---- the disc

    public int disc(int n) {
        if (!within(n, FEWEST_ZONES, MOST_ZONES)) {
            return BAD;
        }
        zones = n;
        knives.begin(n);
        held.begin();
        bench.begin(n);
        pads.begin(n);
        return n;
    }

    public int aim(int r, int a, int b) {
        if (!within(r, LEAST_RADIUS, MOST_RADIUS) || !within(a, -MOST_ABOVE, MOST_ABOVE)
                || !within(b, 1, MOST_BELOW)) {
            return BAD;
        }
        curve.become(r, a, b);
        return 0;
    }

    public long depth(int r, int part) {
        if (!within(r, 0, MOST_REACH) || !within(part, 0, 1)) {
            return BAD_DEPTH;
        }
        return curve.depthAt(r, part == 0);
    }

    public int height(int zone, int v) {
        if (!isZone(zone) || !within(v, -MOST_HEIGHT, MOST_HEIGHT)) {
            return BAD_HEIGHT;
        }
        return bench.tellHeight(zone, v);
    }

    public int at(int zone) {
        return isZone(zone) ? bench.heightOf(zone) : BAD_HEIGHT;
    }

    // ---- tests

    public int read(int test, int i, int v) {
        if (!within(test, 0, TESTS - 1) || !isStep(i)
                || v != GAP && !within(v, -MOST_READING, MOST_READING)) {
            return BAD_READING;
        }
        return knives.tellReading(test, i, v);
    }

    public int lie(int v) {
        return within(v, 0, MOST_LIE) ? knives.tellLie(v) : BAD;
    }

    public int joined(int what) {
        if (what == 0) {
            return knives.howManyDropped();
        }
        return within(what, 1, TESTS - 1) ? knives.shiftOf(what) : BAD_JOINED;
    }

    public int step(int i) {
        return isStep(i) ? knives.stepOf(i) : BAD_READING;
    }

    public int profile(int zone) {
        return isZone(zone) ? knives.profileOf(zone) : BAD_PROFILE;
    }

    public int wire(int i, int j, int v) {
        if (!isZone(i) || !isZone(j) || i >= j || !within(v, -MOST_TOLD, MOST_TOLD)) {
            return BAD;
        }
        return held.howMany() < MOST_WIRES ? held.hold(i, j, v) : FULL;
    }

    public int wires(int what) {
        if (within(what, 0, 2)) {
            return held.howManyOf(what);
        }
        return within(what, 3, held.howMany() + 2) ? held.offBy(what - 3) : BAD_PROFILE;
    }

    // ---- strokes

    public int pull(int tool, int d, int v) {
        if (!isTool(tool) || !within(d, -REACH, REACH) || !within(v, 0, MOST_PULL)) {
            return BAD;
        }
        return bench.tellPull(tool, d, v);
    }

    public int rest(int v) {
        return within(v, 0, MOST_REST) ? bench.tellRest(v) : BAD;
    }

    public int stroke(int tool, int zone, int minutes) {
        if (!isTool(tool) || !isZone(zone) || !within(minutes, 1, MOST_MINUTES)) {
            return BAD_HEIGHT;
        }
        if (bench.wouldSink(tool, zone, minutes)) {
            return NO_HEIGHT;
        }
        if (bench.roomLeft() < 1) {
            return FULL_HEIGHT;
        }
        bench.doStroke(tool, zone, minutes);
        return bench.heightOf(zone);
    }

    public int undo() {
        if (bench.howMany() == 0) {
            return NO;
        }
        bench.undoLatest();
        return bench.howMany();
    }

    public int replay(int zone, int k) {
        if (!isZone(zone) || !within(k, 0, bench.howMany())) {
            return BAD_HEIGHT;
        }
        return bench.replayed(zone, k);
    }

    public int plan(int tool, int zone) {
        if (!isTool(tool) || zone != -1 && !isZone(zone)) {
            return BAD;
        }
        if (!planner.hasPlan(tool)) {
            return NONE;
        }
        return zone == -1 ? planner.together(tool) : planner.minutesAt(tool, zone);
    }

    public int right(int tool) {
        return isTool(tool) ? planner.rightZones(tool) : BAD;
    }

    public int work(int tool) {
        if (!isTool(tool)) {
            return BAD;
        }
        if (!planner.hasPlan(tool)) {
            return NO;
        }
        int strokes = planner.strokesOf(tool);
        if (strokes > bench.roomLeft()) {
            return FULL;
        }
        planner.carryOut(tool);
        return strokes;
    }

    // ---- rings, shells, grits

    public int bend(int ring, int zone, int v) {
        if (!within(ring, 0, SAG) || !isZone(zone) || !within(v, -MOST_BEND, MOST_BEND)) {
            return BAD_BEND;
        }
        return pads.tellBend(ring, zone, v);
    }

    public int bear(int ring) {
        if (ring == -1) {
            return pads.leastSpread();
        }
        return within(ring, 0, RINGS - 1) ? pads.shareOf(ring) : BAD;
    }

    public int warm(int shell, int v) {
        if (!within(shell, 0, AIR) || !within(v, -MOST_WARMTH, MOST_WARMTH)) {
            return BAD_WARMTH;
        }
        return glass.tellWarmth(shell, v);
    }

    public int cool(int n) {
        return within(n, 1, MOST_COOLED) ? glass.letGoBy(n) : BAD;
    }

    public int still(int e) {
        return within(e, 0, MOST_APART) ? glass.minutesTillStill(e) : BAD;
    }

    public int warmth(int shell) {
        return within(shell, 0, AIR) ? glass.warmthOf(shell) : BAD_WARMTH;
    }

    public int grit(int takes, int pits) {
        if (!within(takes, 1, MOST_TAKEN) || !within(pits, 0, MOST_PITS)) {
            return BAD;
        }
        return grits.howMany() < MOST_GRITS ? grits.come(takes, pits) : FULL;
    }

    public int slack(int v) {
        return within(v, 0, MOST_SLACK) ? grits.tellSlack(v) : BAD;
    }

    public int wets(int depth, int i) {
        if (!within(depth, 1, MOST_DEPTH) || !within(i, -1, grits.howMany() - 1)) {
            return BAD;
        }
        return i == -1 ? grits.fewestFor(depth) : grits.wetsOf(depth, i);
    }

    public int count(int what) {
        switch (what) {
            case 0: return zones;
            case 1: return knives.howManyTold();
            case 2: return held.howMany();
            case 3: return bench.howMany();
            case 4: return bench.minutesTogether();
            case 5: return grits.howMany();
            default: return BAD;
        }
    }

    // ---- what the calls above test their numbers by

    private static boolean within(int v, int least, int most) {
        return v >= least && v <= most;
    }

    private static boolean isTool(int tool) {
        return within(tool, 0, TOOLS - 1);
    }

    private boolean isZone(int zone) {
        return within(zone, 0, zones - 1);
    }

    private boolean isStep(int i) {
        return within(i, 0, zones - 2);
    }

    /** The aim: a curve of a radius and a constant, told by the depth of it. */
    private static final class Curve {
        private int radius = 1000;
        private int above = -1;
        private int below = 1;

        void become(int r, int a, int b) {
            radius = r;
            above = a;
            below = b;
        }

        // Both fractions are brought over 8 b R R R, which is 10 to the 13th at most.
        long depthAt(int r, boolean upper) {
            long square = (long) r * r;
            long top = 4L * below * radius * radius * square + (above + below) * square * square;
            long bottom = 8L * below * radius * radius * radius;
            long shared = sharedDivisor(Math.abs(top), bottom);
            if (shared < 1) {
                return BAD_DEPTH;
            }
            return (upper ? top : bottom) / shared;
        }

        // Each two rounds halve the numbers at least: 200 rounds are more than any long needs.
        private static long sharedDivisor(long a, long b) {
            for (int round = 0; round < 200 && b != 0; round++) {
                long left = a % b;
                a = b;
                b = left;
            }
            return a;
        }
    }

    /** The tests' readings, and what they tell when joined. */
    private static final class Knives {
        private final int[][] readings = new int[TESTS][MOST_STEPS];
        private final int[] shifts = new int[TESTS];
        private final int[] steps = new int[MOST_STEPS];
        private final int[] profiles = new int[MOST_ZONES];
        private final int[] firstSecond = new int[2 * MOST_SHIFT + 1];
        private final int[] firstThird = new int[2 * MOST_SHIFT + 1];
        private final int[] secondThird = new int[4 * MOST_SHIFT + 1];
        private int lie = 2;
        private int zones;
        private int dropped;
        private int profiled;
        private boolean settled;

        Knives() {
            begin(FIRST_ZONES);
        }

        void begin(int n) {
            zones = n;
            for (int[] row : readings) {
                Arrays.fill(row, GAP);
            }
            settled = false;
        }

        int tellReading(int test, int i, int v) {
            int was = readings[test][i];
            readings[test][i] = v;
            settled = false;
            return was;
        }

        int tellLie(int v) {
            int was = lie;
            lie = v;
            settled = false;
            return was;
        }

        int howManyTold() {
            int told = 0;
            for (int[] row : readings) {
                for (int reading : row) {
                    if (reading != GAP) {
                        told++;
                    }
                }
            }
            return told;
        }

        int howManyDropped() {
            settle();
            return dropped;
        }

        int shiftOf(int test) {
            settle();
            return shifts[test];
        }

        int stepOf(int i) {
            settle();
            return steps[i];
        }

        int profileOf(int zone) {
            settle();
            return zone < profiled ? profiles[zone] : NO_PROFILE;
        }

        int lieOf() {
            return lie;
        }

        // Many calls ask of one and the same joining, so it is worked out once and kept.
        private void settle() {
            if (settled) {
                return;
            }
            settleAgreements();
            settleShifts();
            for (int i = 0; i < zones - 1; i++) {
                steps[i] = leastStep(i);
            }
            settleProfiles();
            settled = true;
        }

        // Two tests agree at a step if one number serves both; which steps, is told by bits.
        private void settleAgreements() {
            for (int shift = -MOST_SHIFT; shift <= MOST_SHIFT; shift++) {
                firstSecond[shift + MOST_SHIFT] = stepsOfAgreement(0, 1, shift);
                firstThird[shift + MOST_SHIFT] = stepsOfAgreement(0, 2, shift);
            }
            for (int shift = -2 * MOST_SHIFT; shift <= 2 * MOST_SHIFT; shift++) {
                secondThird[shift + 2 * MOST_SHIFT] = stepsOfAgreement(1, 2, shift);
            }
        }

        private int stepsOfAgreement(int test, int other, int shift) {
            int bits = 0;
            for (int i = 0; i < zones - 1; i++) {
                int one = readings[test][i];
                int two = readings[other][i];
                if (one != GAP && two != GAP && Math.abs(two - shift - one) <= 2 * lie) {
                    bits |= 1 << i;
                }
            }
            return bits;
        }

        // Lesser shifts come first, so of equal ones the first to be found stands.
        private void settleShifts() {
            int kept = -1;
            int size = 0;
            for (int one = -MOST_SHIFT; one <= MOST_SHIFT; one++) {
                for (int two = -MOST_SHIFT; two <= MOST_SHIFT; two++) {
                    int sizeNow = Math.abs(one) + Math.abs(two);
                    int keptNow = keptMore(one, two);
                    if (keptNow > kept || keptNow == kept && sizeNow < size) {
                        kept = keptNow;
                        size = sizeNow;
                        shifts[1] = one;
                        shifts[2] = two;
                    }
                }
            }
            dropped = howManyTold() - stepsTold() - kept;
        }

        // Each step that is told keeps one reading; here are those that it keeps besides: one where
        // any two tests agree, and another where all do (one number serves three readings just
        // when it serves each two of them).
        private int keptMore(int one, int two) {
            int first = firstSecond[one + MOST_SHIFT];
            int second = firstThird[two + MOST_SHIFT];
            int third = secondThird[two - one + 2 * MOST_SHIFT];
            return Integer.bitCount(first | second | third) + Integer.bitCount(first & second & third);
        }

        private int stepsTold() {
            int told = 0;
            for (int i = 0; i < zones - 1; i++) {
                if (readings[0][i] != GAP || readings[1][i] != GAP || readings[2][i] != GAP) {
                    told++;
                }
            }
            return told;
        }

        // The least number that serves as many readings as can be lies just LIE below one of them.
        private int leastStep(int i) {
            int served = 0;
            int least = GAP;
            for (int test = 0; test < TESTS; test++) {
                if (readings[test][i] != GAP) {
                    int number = readings[test][i] - shifts[test] - lie;
                    int servedNow = servedBy(number, i);
                    if (servedNow > served || servedNow == served && number < least) {
                        served = servedNow;
                        least = number;
                    }
                }
            }
            return least;
        }

        private int servedBy(int number, int i) {
            int served = 0;
            for (int test = 0; test < TESTS; test++) {
                int reading = readings[test][i];
                if (reading != GAP && Math.abs(reading - shifts[test] - number) <= lie) {
                    served++;
                }
            }
            return served;
        }

        private void settleProfiles() {
            profiles[0] = 0;
            profiled = 1;
            for (int i = 0; i < zones - 1 && steps[i] != GAP; i++) {
                profiles[i + 1] = profiles[i] + steps[i];
                profiled = i + 2;
            }
        }
    }

    /** The wires that are held against the profile. */
    private static final class Wires {
        private final Knives knives;
        private final int[] from = new int[MOST_WIRES];
        private final int[] to = new int[MOST_WIRES];
        private final int[] told = new int[MOST_WIRES];
        private int many = 0;

        Wires(Knives knives) {
            this.knives = knives;
        }

        void begin() {
            many = 0;
        }

        int howMany() {
            return many;
        }

        int hold(int i, int j, int v) {
            if (many < MOST_WIRES) {
                from[many] = i;
                to[many] = j;
                told[many] = v;
                many++;
            }
            return many;
        }

        // Kinds: 0 closes, 1 is open, 2 neither.
        int howManyOf(int kind) {
            int found = 0;
            for (int k = 0; k < many; k++) {
                int off = offBy(k);
                boolean closes = Math.abs(off) <= knives.lieOf() * (to[k] - from[k]);
                int kindNow = off == NO_PROFILE ? 2 : closes ? 0 : 1;
                if (kindNow == kind) {
                    found++;
                }
            }
            return found;
        }

        int offBy(int k) {
            int near = knives.profileOf(from[k]);
            int far = knives.profileOf(to[k]);
            if (near == NO_PROFILE || far == NO_PROFILE) {
                return NO_PROFILE;
            }
            return told[k] - (far - near);
        }
    }

    /** The heights, the tools' pulls, and the strokes done since heights were told last. */
    private static final class Bench {
        private final int[] heights = new int[MOST_ZONES];
        private final int[] toldHeights = new int[MOST_ZONES];
        private final int[][] pulls = new int[TOOLS][PULLED];
        private final int[] strokeTools = new int[MOST_STROKES];
        private final int[] strokeZones = new int[MOST_STROKES];
        private final int[] strokeMinutes = new int[MOST_STROKES];
        // What each stroke took: pulls may be told anew before it is undone.
        private final int[][] taken = new int[MOST_STROKES][PULLED];
        private int zones = FIRST_ZONES;
        private int strokes = 0;
        private int rest = 10;
        private int changes = 0;

        void begin(int n) {
            zones = n;
            Arrays.fill(heights, 0);
            keepAsTold();
        }

        private void keepAsTold() {
            System.arraycopy(heights, 0, toldHeights, 0, MOST_ZONES);
            strokes = 0;
            changes++;
        }

        int tellHeight(int zone, int v) {
            int was = heights[zone];
            heights[zone] = v;
            keepAsTold();
            return was;
        }

        int tellPull(int tool, int d, int v) {
            int was = pulls[tool][d + REACH];
            pulls[tool][d + REACH] = v;
            changes++;
            return was;
        }

        int tellRest(int v) {
            int was = rest;
            rest = v;
            changes++;
            return was;
        }

        int howManyZones() {
            return zones;
        }

        int heightOf(int zone) {
            return heights[zone];
        }

        int pullOf(int tool, int d) {
            return within(d, -REACH, REACH) ? pulls[tool][d + REACH] : 0;
        }

        int restOf() {
            return rest;
        }

        /** Grows with whatever a plan hangs on. */
        int howManyChanges() {
            return changes;
        }

        int howMany() {
            return strokes;
        }

        int roomLeft() {
            return MOST_STROKES - strokes;
        }

        int minutesTogether() {
            int sum = 0;
            for (int k = 0; k < strokes; k++) {
                sum += strokeMinutes[k];
            }
            return sum;
        }

        boolean wouldSink(int tool, int zone, int minutes) {
            for (int d = -REACH; d <= REACH; d++) {
                if (isThere(zone + d)
                        && heights[zone + d] - minutes * pullOf(tool, d) < -MOST_HEIGHT) {
                    return true;
                }
            }
            return false;
        }

        private boolean isThere(int zone) {
            return within(zone, 0, zones - 1);
        }

        void doStroke(int tool, int zone, int minutes) {
            if (strokes >= MOST_STROKES) {
                return;
            }
            for (int d = -REACH; d <= REACH; d++) {
                int takes = isThere(zone + d) ? minutes * pullOf(tool, d) : 0;
                taken[strokes][d + REACH] = takes;
                if (isThere(zone + d)) {
                    heights[zone + d] -= takes;
                }
            }
            strokeTools[strokes] = tool;
            strokeZones[strokes] = zone;
            strokeMinutes[strokes] = minutes;
            strokes++;
            changes++;
        }

        void undoLatest() {
            if (strokes < 1) {
                return;
            }
            strokes--;
            int zone = strokeZones[strokes];
            for (int d = -REACH; d <= REACH; d++) {
                if (isThere(zone + d)) {
                    heights[zone + d] += taken[strokes][d + REACH];
                }
            }
            changes++;
        }

        int replayed(int zone, int k) {
            int height = toldHeights[zone];
            for (int done = 0; done < k && done < strokes; done++) {
                int d = zone - strokeZones[done];
                height -= strokeMinutes[done] * pullOf(strokeTools[done], d);
            }
            return height;
        }
    }

    /**
     * Finds each tool's plan. Zone by zone a minute number is chosen; the four latest ones are
     * the state (a number to base six), since zone z - 2 has its last height once zone z is chosen.
     */
    private static final class Planner {
        private static final int CHOICES = MOST_PLANNED + 1;
        private static final int STATES = CHOICES * CHOICES * CHOICES * CHOICES;
        // Two places behind the last zone close the heights of the last two zones.
        private static final int PLACES = MOST_ZONES + REACH;
        // A zone that does not come right costs more than all minutes there can be.
        private static final int MISS = 1000;
        private static final int UNKNOWN = -1;
        private static final int ABOVE_ALL = (MOST_ZONES + 1) * MISS;

        private final Bench bench;
        private final int[] costs = new int[PLACES * STATES];
        private final int[][] minutes = new int[TOOLS][MOST_ZONES];
        private final int[] planCosts = new int[TOOLS];
        private final int[] settledAt = new int[TOOLS];
        // What the plan that is being worked out hangs on.
        private final int[] heights = new int[MOST_ZONES];
        private final int[] pulls = new int[PULLED];
        private int rest;
        private int zones;

        Planner(Bench bench) {
            this.bench = bench;
            Arrays.fill(settledAt, UNKNOWN);
        }

        boolean hasPlan(int tool) {
            settle(tool);
            return planCosts[tool] < MISS;
        }

        int together(int tool) {
            settle(tool);
            return planCosts[tool];
        }

        int minutesAt(int tool, int zone) {
            settle(tool);
            return minutes[tool][zone];
        }

        int rightZones(int tool) {
            settle(tool);
            return zones - planCosts[tool] / MISS;
        }

        int strokesOf(int tool) {
            settle(tool);
            int strokes = 0;
            for (int zone = 0; zone < zones; zone++) {
                if (minutes[tool][zone] > 0) {
                    strokes++;
                }
            }
            return strokes;
        }

        // The minutes are read as they are: each stroke changes what the plan hangs on.
        void carryOut(int tool) {
            settle(tool);
            for (int zone = 0; zone < zones; zone++) {
                if (minutes[tool][zone] > 0) {
                    bench.doStroke(tool, zone, minutes[tool][zone]);
                }
            }
        }

        // Many calls ask of one and the same plan, so it is worked out once and kept.
        private void settle(int tool) {
            if (settledAt[tool] == bench.howManyChanges()) {
                return;
            }
            begin(tool);
            planCosts[tool] = costFrom(0, 0);
            if (planCosts[tool] < MISS) {
                traceMinutes(minutes[tool]);
            }
            settledAt[tool] = bench.howManyChanges();
        }

        private void begin(int tool) {
            zones = bench.howManyZones();
            rest = bench.restOf();
            for (int zone = 0; zone < zones; zone++) {
                heights[zone] = bench.heightOf(zone);
            }
            for (int d = -REACH; d <= REACH; d++) {
                pulls[d + REACH] = bench.pullOf(tool, d);
            }
            Arrays.fill(costs, UNKNOWN);
        }

        // Of several choices of the same cost the least is taken.
        private void traceMinutes(int[] row) {
            int state = 0;
            for (int zone = 0; zone < zones; zone++) {
                int left = leftAt(zone - REACH, state);
                int chosen = 0;
                while (chosen < MOST_PLANNED
                        && costWith(zone, state, chosen, left) > costs[zone * STATES + state]) {
                    chosen++;
                }
                row[zone] = chosen;
                state = stateBehind(state, chosen);
            }
        }

        // From a place on: the zones that do not come right by MISS each, and the minutes.
        private int costFrom(int place, int state) {
            if (place < 0 || place >= zones + REACH || state < 0 || state >= STATES) {
                return 0;
            }
            int slot = place * STATES + state;
            if (costs[slot] == UNKNOWN) {
                costs[slot] = leastCost(place, state);
            }
            return costs[slot];
        }

        // Once as many minutes alone cost what has been found, there is no use to go on.
        private int leastCost(int place, int state) {
            int most = place < zones ? MOST_PLANNED : 0;
            int left = leftAt(place - REACH, state);
            int least = ABOVE_ALL;
            for (int chosen = 0; chosen <= most && chosen < least; chosen++) {
                least = Math.min(least, costWith(place, state, chosen, left));
            }
            return least;
        }

        private int costWith(int place, int state, int chosen, int left) {
            int height = left - chosen * pulls[0];
            if (place >= REACH && (height < 0 || height > rest)) {
                return (zones - place + REACH) * MISS;
            }
            return chosen + costFrom(place + 1, stateBehind(state, chosen));
        }

        private static int stateBehind(int state, int chosen) {
            return (state * CHOICES + chosen) % STATES;
        }

        // What the four latest choices leave of a zone: they stand two before it to one behind it.
        private int leftAt(int zone, int state) {
            if (zone < 0) {
                return 0;
            }
            int left = heights[zone];
            int digits = state;
            for (int pulled = 1; pulled < PULLED; pulled++) {
                left -= digits % CHOICES * pulls[pulled];
                digits /= CHOICES;
            }
            return left;
        }
    }

    /** The rings of pads, and the shares by which the disc bends least. */
    private static final class Rings {
        private static final int ABOVE_ALL = 4 * TWELFTHS * MOST_BEND + 1;

        private final int[][] bends = new int[RINGS + 1][MOST_ZONES];
        // Row k: how the zones are bent while k rings bear.
        private final int[][] bent = new int[MOST_BEARING + 1][MOST_ZONES];
        private final int[] shares = new int[RINGS];
        private final int[] best = new int[RINGS];
        private int zones = FIRST_ZONES;
        private int spread;
        private boolean settled = false;

        void begin(int n) {
            zones = n;
            for (int[] row : bends) {
                Arrays.fill(row, 0);
            }
            settled = false;
        }

        int tellBend(int ring, int zone, int v) {
            int was = bends[ring][zone];
            bends[ring][zone] = v;
            settled = false;
            return was;
        }

        int leastSpread() {
            settle();
            return spread;
        }

        int shareOf(int ring) {
            settle();
            return best[ring];
        }

        private void settle() {
            if (settled) {
                return;
            }
            for (int zone = 0; zone < zones; zone++) {
                bent[0][zone] = TWELFTHS * bends[SAG][zone];
            }
            spread = ABOVE_ALL;
            place(0, TWELFTHS, 0);
            settled = true;
        }

        // More of an earlier ring is tried first, so of equal spreads the first to be found stands.
        private void place(int ring, int left, int bearing) {
            if (left == 0) {
                keepIfBetter(ring, bearing);
                return;
            }
            if (ring >= RINGS || bearing >= MOST_BEARING) {
                return;
            }
            boolean last = ring + 1 == RINGS || bearing + 1 == MOST_BEARING;
            for (int share = left; share >= (last ? left : 1); share--) {
                placeShare(ring, share, left, bearing);
            }
            placeShare(ring, 0, left, bearing);
        }

        private void placeShare(int ring, int share, int left, int bearing) {
            shares[ring] = share;
            if (share == 0) {
                place(ring + 1, left, bearing);
                return;
            }
            for (int zone = 0; zone < zones; zone++) {
                bent[bearing + 1][zone] = bent[bearing][zone] - share * bends[ring][zone];
            }
            place(ring + 1, left - share, bearing + 1);
        }

        // Rings from the given one on bear nothing.
        private void keepIfBetter(int ring, int bearing) {
            int spreadNow = spreadOf(bent[bearing]);
            if (spreadNow < spread) {
                spread = spreadNow;
                for (int k = 0; k < RINGS; k++) {
                    best[k] = k < ring ? shares[k] : 0;
                }
            }
        }

        private int spreadOf(int[] row) {
            int least = row[0];
            int most = row[0];
            for (int zone = 1; zone < zones; zone++) {
                least = Math.min(least, row[zone]);
                most = Math.max(most, row[zone]);
            }
            return most - least;
        }
    }

    /** The shells of the glass, with air before the first and behind the last. */
    private static final class Shells {
        private final int[] shells = new int[SHELLS];
        private final int[] tried = new int[SHELLS];
        private int air = 0;

        int tellWarmth(int shell, int v) {
            int was = warmthOf(shell);
            if (shell == AIR) {
                air = v;
            } else {
                shells[shell] = v;
            }
            return was;
        }

        int warmthOf(int shell) {
            return shell == AIR ? air : shells[shell];
        }

        int letGoBy(int minutes) {
            boolean moves = true;
            for (int minute = 0; minute < minutes && moves; minute++) {
                moves = goOneMinute(shells);
            }
            return greatest(shells, shells[0]) - least(shells, shells[0]);
        }

        int minutesTillStill(int apart) {
            System.arraycopy(shells, 0, tried, 0, SHELLS);
            boolean moves = true;
            // What no longer moves never comes to be still.
            for (int minute = 0; minute <= MOST_TRIED && moves; minute++) {
                if (greatest(tried, air) - least(tried, air) <= apart) {
                    return minute;
                }
                moves = goOneMinute(tried);
            }
            return NONE;
        }

        // All shells change at once, so what the one ahead was before is carried along.
        private boolean goOneMinute(int[] row) {
            boolean moved = false;
            int ahead = air;
            for (int shell = 0; shell < SHELLS; shell++) {
                int own = row[shell];
                int behind = shell + 1 < SHELLS ? row[shell + 1] : air;
                int more = Math.floorDiv(ahead + behind - 2 * own, 4);
                row[shell] = own + more;
                moved = moved || more != 0;
                ahead = own;
            }
            return moved;
        }

        private static int greatest(int[] row, int other) {
            int most = other;
            for (int warmth : row) {
                most = Math.max(most, warmth);
            }
            return most;
        }

        private static int least(int[] row, int other) {
            int least = other;
            for (int warmth : row) {
                least = Math.min(least, warmth);
            }
            return least;
        }
    }

    /** The grits, and the fewest wets by which they take a depth. */
    private static final class Grits {
        private static final int SPAN = MOST_DEPTH + MOST_SLACK + 1;
        private static final int FAR = 1000;

        private final int[] takes = new int[MOST_GRITS];
        private final int[] pits = new int[MOST_GRITS];
        // Row p + 1: behind grit p as the latest used (row 0: none yet), the fewest wets of
        // later grits that take just so much. Depth and slack play no part: it stands for all.
        private final int[][] fewest = new int[MOST_GRITS + 1][SPAN];
        private int many = 0;
        private int slack = 0;
        private boolean settled = false;

        int howMany() {
            return many;
        }

        int come(int take, int leaves) {
            if (many >= MOST_GRITS) {
                return FULL;
            }
            takes[many] = take;
            pits[many] = leaves;
            many++;
            settled = false;
            return many - 1;
        }

        int tellSlack(int v) {
            int was = slack;
            slack = v;
            return was;
        }

        int fewestFor(int depth) {
            settle();
            int together = fewestWithin(-1, depth, depth + slack);
            return together < FAR ? together : NONE;
        }

        // More wets of an earlier grit come first, so each grit takes the most that still serves.
        int wetsOf(int depth, int wanted) {
            int left = fewestFor(depth);
            if (left == NONE) {
                return NONE;
            }
            int latest = -1;
            int low = depth;
            int wets = 0;
            for (int grit = 0; grit <= wanted && grit < many; grit++) {
                wets = mostThatServe(latest, grit, low, left);
                if (wets > 0) {
                    latest = grit;
                    low -= wets * takes[grit];
                    left -= wets;
                }
            }
            return wets;
        }

        private int mostThatServe(int latest, int grit, int low, int left) {
            for (int wets = MOST_WETS; wets > 0; wets--) {
                int start = low - wets * takes[grit];
                if (clears(latest, wets * takes[grit])
                        && fewestWithin(grit, start, start + slack) == left - wets) {
                    return wets;
                }
            }
            return 0;
        }

        private boolean clears(int latest, int taken) {
            return latest < 0 || taken >= 3 * pits[latest];
        }

        private int fewestWithin(int latest, int low, int high) {
            int[] row = fewest[latest + 1];
            int found = FAR;
            for (int t = Math.max(low, 0); t <= high && t < SPAN; t++) {
                found = Math.min(found, row[t]);
            }
            return found;
        }

        // From the last grit back: each row is made of the rows of the grits behind it.
        private void settle() {
            if (settled) {
                return;
            }
            for (int latest = many - 1; latest >= -1; latest--) {
                Arrays.fill(fewest[latest + 1], FAR);
                if (latest >= 0 && latest == many - 1) {
                    fewest[latest + 1][0] = 0;
                }
                for (int next = latest + 1; next < many; next++) {
                    bring(latest, next);
                }
            }
            settled = true;
        }

        private void bring(int latest, int next) {
            int[] row = fewest[next + 1];
            for (int t = 0; t < SPAN; t++) {
                if (row[t] < FAR) {
                    bringFrom(latest, next, t);
                }
            }
        }

        private void bringFrom(int latest, int next, int t) {
            int[] row = fewest[latest + 1];
            int had = fewest[next + 1][t];
            for (int wets = 1; wets <= MOST_WETS && t + wets * takes[next] < SPAN; wets++) {
                if (clears(latest, wets * takes[next])) {
                    int sum = t + wets * takes[next];
                    row[sum] = Math.min(row[sum], had + wets);
                }
            }
        }
    }
}
