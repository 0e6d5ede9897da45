import java.util.Random;

/** Long runs of calls, the same for MirrorTrue and for PlainMirror: every answer must be the same. */
public final class RandomRunsTest {
    private static final int CALLS = 512;
    // makeSolvable, the longest of the rounds, makes so many.
    private static final int CALLS_A_ROUND = 30;
    private static final Check check = new Check("RandomRunsTest");
    private static final int[] FAR = {Integer.MIN_VALUE, Integer.MAX_VALUE, -1000000, 1000000, -3, 99};

    private final Random random;
    private final MirrorTrue x = new MirrorTrue();
    private final PlainMirror y = new PlainMirror();
    private final int size;
    private int calls = 0;

    private RandomRunsTest(int seed) {
        random = new Random(seed);
        size = seed / 6 % 4;
    }

    public static void main(String[] args) {
        int runs = args.length > 0 ? Integer.parseInt(args[0]) : 60;
        for (int seed = 1; seed <= runs; seed++) {
            new RandomRunsTest(seed).run(seed);
        }
        check.end();
    }

    private void run(int seed) {
        int theme = seed % 6;
        while (calls + CALLS_A_ROUND <= CALLS) {
            int kind = random.nextInt(10) == 0 ? random.nextInt(6) : theme;
            String at = "seed " + seed + ", call " + calls + ": ";
            switch (kind) {
                case 0: discCall(at); break;
                case 1: testCall(at); break;
                case 2: strokeCall(at); break;
                case 3: ringCall(at); break;
                case 4: shellCall(at); break;
                default: gritCall(at); break;
            }
        }
    }

    /** Most times a number that is told, at times the edge, its neighbour or one far off. */
    private int pick(int least, int most) {
        int how = random.nextInt(60);
        if (how == 0) {
            return least - 1;
        }
        if (how == 1) {
            return most + 1;
        }
        if (how == 2) {
            return FAR[random.nextInt(FAR.length)];
        }
        if (how < 6) {
            return random.nextBoolean() ? least : most;
        }
        return least + random.nextInt(most - least + 1);
    }

    private int zone() {
        return pick(0, y.count(0) - 1);
    }

    private void same(String call, long got, long want) {
        calls++;
        check.due(call, got, want);
    }

    private void discCall(String at) {
        int r = pick(0, 200);
        int part = pick(0, 1);
        switch (random.nextInt(8)) {
            case 0:
                int n = random.nextBoolean() ? pick(4, 16) : pick(4, 6);
                same(at + "disc " + n, x.disc(n), y.disc(n));
                break;
            case 1: case 2:
                int radius = random.nextBoolean() ? pick(100, 5000) : 100 * pick(1, 50);
                int a = pick(-30, 30);
                int b = pick(1, 10);
                same(at + "aim", x.aim(radius, a, b), y.aim(radius, a, b));
                break;
            case 3:
                int zone = zone();
                int v = pick(-100000, 100000);
                same(at + "height", x.height(zone, v), y.height(zone, v));
                break;
            case 4:
                int where = zone();
                same(at + "at", x.at(where), y.at(where));
                break;
            case 5:
                int what = pick(0, 5);
                same(at + "count " + what, x.count(what), y.count(what));
                break;
            default:
                same(at + "depth " + r, x.depth(r, part), y.depth(r, part));
                break;
        }
    }

    private void testCall(String at) {
        int span = new int[] {3, 12, 40, 1000}[size];
        int i = pick(0, y.count(0) - 2);
        switch (random.nextInt(12)) {
            case 0:
                int lie = random.nextInt(3) > 0 ? pick(0, 3) : pick(0, 50);
                same(at + "lie " + lie, x.lie(lie), y.lie(lie));
                break;
            case 1:
                int what = pick(0, 2);
                same(at + "joined " + what, x.joined(what), y.joined(what));
                break;
            case 2:
                same(at + "step " + i, x.step(i), y.step(i));
                break;
            case 3:
                int zone = zone();
                same(at + "profile " + zone, x.profile(zone), y.profile(zone));
                break;
            case 4:
                int from = zone();
                int to = zone();
                int told = random.nextInt(5) == 0 ? pick(-100000, 100000) : pick(-span * 3, span * 3);
                same(at + "wire", x.wire(from, to, told), y.wire(from, to, told));
                break;
            case 5:
                int which = pick(0, y.count(2) + 3);
                same(at + "wires " + which, x.wires(which), y.wires(which));
                break;
            default:
                int test = pick(0, 2);
                int v = random.nextInt(9) == 0 ? 5000 : pick(-span, span);
                same(at + "read", x.read(test, i, v), y.read(test, i, v));
                break;
        }
    }

    private void strokeCall(String at) {
        int tool = pick(0, 2);
        int zone = zone();
        switch (random.nextInt(26)) {
            case 24: case 25:
                makeSolvable(at, Math.floorMod(tool, 3));
                break;
            case 0:
                int n = random.nextInt(4) == 0 ? pick(4, 16) : pick(4, 7);
                same(at + "disc " + n, x.disc(n), y.disc(n));
                break;
            case 1: case 2: case 3: case 4: case 5: case 6:
                int v = random.nextInt(30) == 0 ? pick(-100000, 100000) : pick(0, 30 + 20 * size);
                same(at + "height", x.height(zone, v), y.height(zone, v));
                break;
            case 7: case 8: case 9:
                int d = pick(-2, 2);
                int pull = random.nextInt(9) == 0 ? pick(0, 50) : pick(0, 3 + 2 * size);
                same(at + "pull", x.pull(tool, d, pull), y.pull(tool, d, pull));
                break;
            case 10: case 11:
                int rest = random.nextInt(9) == 0 ? pick(0, 10000) : pick(0, 30);
                same(at + "rest", x.rest(rest), y.rest(rest));
                break;
            case 12: case 13: case 14:
                int minutes = pick(1, 20);
                same(at + "stroke", x.stroke(tool, zone, minutes), y.stroke(tool, zone, minutes));
                break;
            case 15:
                same(at + "undo", x.undo(), y.undo());
                break;
            case 16: case 17:
                int k = pick(0, y.count(3));
                same(at + "replay", x.replay(zone, k), y.replay(zone, k));
                break;
            case 18: case 19:
                int where = random.nextBoolean() ? -1 : zone;
                same(at + "plan " + tool + " " + where, x.plan(tool, where), y.plan(tool, where));
                break;
            case 20: case 21:
                same(at + "right " + tool, x.right(tool), y.right(tool));
                break;
            case 22:
                same(at + "work " + tool, x.work(tool), y.work(tool));
                break;
            default:
                same(at + "at " + zone, x.at(zone), y.at(zone));
                same(at + "count", x.count(4), y.count(4));
                break;
        }
    }

    /** Tells heights that some minutes bring right, or nearly so. */
    private void makeSolvable(String at, int tool) {
        int n = y.count(0);
        int[] heights = new int[n];
        int[] minutes = random.ints(n, 0, 6).toArray();
        int rest = random.nextInt(2 + 4 * size);
        int off = random.nextInt(3) == 0 ? 1 + random.nextInt(3) : 0;
        same(at + "rest", x.rest(rest), y.rest(rest));
        for (int d = -2; d <= 2; d++) {
            int pull = random.nextInt(3) == 0 ? 0 : random.nextInt(2 + 3 * size);
            same(at + "pull", x.pull(tool, d, pull), y.pull(tool, d, pull));
            for (int zone = 0; zone < n; zone++) {
                if (zone + d >= 0 && zone + d < n) {
                    heights[zone + d] += pull * minutes[zone];
                }
            }
        }
        for (int zone = 0; zone < n; zone++) {
            int v = heights[zone] / (1 + off) + random.nextInt(rest + 1);
            same(at + "height", x.height(zone, v), y.height(zone, v));
        }
        same(at + "right " + tool, x.right(tool), y.right(tool));
        same(at + "plan " + tool, x.plan(tool, -1), y.plan(tool, -1));
        for (int zone = 0; zone < n; zone += 3) {
            same(at + "plan " + tool + " " + zone, x.plan(tool, zone), y.plan(tool, zone));
        }
    }

    private void ringCall(String at) {
        int ring = pick(-1, 5);
        switch (random.nextInt(9)) {
            case 0:
                same(at + "bear " + ring, x.bear(ring), y.bear(ring));
                break;
            case 1:
                int n = random.nextInt(20) == 0 ? pick(4, 16) : -1;
                same(at + "disc " + n, x.disc(n), y.disc(n));
                break;
            default:
                int zone = zone();
                int which = pick(0, 6);
                int most = new int[] {1, 5, 50, 500}[size];
                int v = pick(-most, most);
                same(at + "bend", x.bend(which, zone, v), y.bend(which, zone, v));
                break;
        }
    }

    private void shellCall(String at) {
        int shell = pick(0, 8);
        int most = new int[] {9, 500, 20000, 100000}[size];
        switch (random.nextInt(7)) {
            case 0: case 1: case 2:
                int v = pick(-most, most);
                same(at + "warm", x.warm(shell, v), y.warm(shell, v));
                break;
            case 3:
                int minutes = random.nextInt(5) == 0 ? pick(1, 1000) : pick(1, 9);
                same(at + "cool " + minutes, x.cool(minutes), y.cool(minutes));
                break;
            case 4:
                int e = random.nextBoolean() ? pick(0, most) : pick(0, 20);
                same(at + "still " + e, x.still(e), y.still(e));
                break;
            default:
                same(at + "warmth", x.warmth(shell), y.warmth(shell));
                break;
        }
    }

    private void gritCall(String at) {
        switch (random.nextInt(90)) {
            case 0: case 1: case 2: case 3:
                int takes = random.nextBoolean() ? pick(1, 100) : pick(1, 12);
                int pits = random.nextBoolean() ? pick(0, 200) : pick(0, 12);
                same(at + "grit " + takes, x.grit(takes, pits), y.grit(takes, pits));
                break;
            case 4: case 5: case 6: case 7: case 8: case 9:
                int slack = random.nextBoolean() ? pick(0, 100) : pick(0, 5);
                same(at + "slack " + slack, x.slack(slack), y.slack(slack));
                break;
            case 10: case 11: case 12: case 13: case 14: case 15: case 16:
                same(at + "count 5", x.count(5), y.count(5));
                break;
            default:
                int depth = random.nextBoolean() ? pick(1, 2000) : pick(1, 300);
                int i = pick(-1, y.count(5) - 1);
                same(at + "wets " + depth + " " + i, x.wets(depth, i), y.wets(depth, i));
                break;
        }
    }
}
