import java.math.BigInteger;
import java.util.ArrayList;
import java.util.Arrays;
import java.util.HashMap;
import java.util.List;
import java.util.Map;

/**
 * The document once more, written as its words stand, with trying out instead of the ways that
 * MirrorTrue takes: answers of both are held against each other by RandomRunsTest.
 */
final class PlainMirror {
    private static final int GAP = 5000;

    private int n = 8;
    private int radius = 1000;
    private int a = -1;
    private int b = 1;
    private int[] heights = new int[8];
    private int[] told = new int[8];
    private Integer[][] readings = new Integer[3][7];
    private int lie = 2;
    private final List<int[]> wires = new ArrayList<>();
    private final int[][] pulls = new int[3][5];
    private int rest = 10;
    private final List<int[]> strokes = new ArrayList<>();
    private final List<int[]> before = new ArrayList<>();
    private int[][] bends = new int[7][8];
    private int[] shells = new int[8];
    private int air = 0;
    private final List<int[]> grits = new ArrayList<>();
    private int slack = 0;

    private static boolean in(int v, int least, int most) {
        return least <= v && v <= most;
    }

    int disc(int zones) {
        if (!in(zones, 4, 16)) {
            return -1;
        }
        n = zones;
        heights = new int[n];
        told = new int[n];
        readings = new Integer[3][n - 1];
        bends = new int[7][n];
        wires.clear();
        strokes.clear();
        before.clear();
        return n;
    }

    int aim(int r, int above, int below) {
        if (!in(r, 100, 5000) || !in(above, -30, 30) || !in(below, 1, 10)) {
            return -1;
        }
        radius = r;
        a = above;
        b = below;
        return 0;
    }

    long depth(int r, int part) {
        if (!in(r, 0, 200) || !in(part, 0, 1)) {
            return -1000000000000000000L;
        }
        BigInteger rr = BigInteger.valueOf((long) r * r);
        BigInteger big = BigInteger.valueOf(radius);
        BigInteger below1 = big.multiply(BigInteger.TWO);
        BigInteger above2 = rr.multiply(rr).multiply(BigInteger.valueOf(b + a));
        BigInteger below2 = big.pow(3).multiply(BigInteger.valueOf(8L * b));
        BigInteger above = rr.multiply(below2).add(above2.multiply(below1));
        BigInteger below = below1.multiply(below2);
        BigInteger shared = above.gcd(below);
        return (part == 0 ? above : below).divide(shared).longValueExact();
    }

    int height(int zone, int v) {
        if (!in(zone, 0, n - 1) || !in(v, -100000, 100000)) {
            return -1000000;
        }
        int was = heights[zone];
        heights[zone] = v;
        told = heights.clone();
        strokes.clear();
        before.clear();
        return was;
    }

    int at(int zone) {
        return in(zone, 0, n - 1) ? heights[zone] : -1000000;
    }

    int read(int test, int i, int v) {
        if (!in(test, 0, 2) || !in(i, 0, n - 2) || !(v == GAP || in(v, -1000, 1000))) {
            return 10000;
        }
        Integer was = readings[test][i];
        readings[test][i] = v == GAP ? null : Integer.valueOf(v);
        return was == null ? GAP : was;
    }

    int lie(int v) {
        if (!in(v, 0, 50)) {
            return -1;
        }
        int was = lie;
        lie = v;
        return was;
    }

    private List<Integer> shifted(int i, int[] join) {
        List<Integer> row = new ArrayList<>();
        for (int test = 0; test < 3; test++) {
            if (readings[test][i] != null) {
                row.add(readings[test][i] - join[test]);
            }
        }
        return row;
    }

    private int fewestDropped(List<Integer> row) {
        int fewest = row.size();
        for (int kept = 0; kept < 1 << row.size(); kept++) {
            int least = Integer.MAX_VALUE;
            int most = Integer.MIN_VALUE;
            for (int k = 0; k < row.size(); k++) {
                if ((kept >> k & 1) == 1) {
                    least = Math.min(least, row.get(k));
                    most = Math.max(most, row.get(k));
                }
            }
            if (kept == 0 || most - least <= 2 * lie) {
                fewest = Math.min(fewest, row.size() - Integer.bitCount(kept));
            }
        }
        return fewest;
    }

    /** Dropped, shift 1, shift 2. */
    private int[] join() {
        List<int[]> all = new ArrayList<>();
        for (int one = -20; one <= 20; one++) {
            for (int two = -20; two <= 20; two++) {
                int dropped = 0;
                for (int i = 0; i < n - 1; i++) {
                    dropped += fewestDropped(shifted(i, new int[] {0, one, two}));
                }
                all.add(new int[] {dropped, Math.abs(one) + Math.abs(two), one, two});
            }
        }
        all.sort(Arrays::compare);
        int[] best = all.get(0);
        return new int[] {best[0], best[2], best[3]};
    }

    int joined(int what) {
        return in(what, 0, 2) ? join()[what] : -100;
    }

    private int[] stepRow() {
        int[] found = join();
        found[0] = 0;
        int[] row = new int[n - 1];
        for (int i = 0; i < n - 1; i++) {
            row[i] = stepOf(shifted(i, found));
        }
        return row;
    }

    private int stepOf(List<Integer> row) {
        int best = GAP;
        int most = 0;
        for (int number = -1100; number <= 1100; number++) {
            int served = 0;
            for (int reading : row) {
                if (Math.abs(reading - number) <= lie) {
                    served++;
                }
            }
            if (served > most) {
                most = served;
                best = number;
            }
        }
        return best;
    }

    int step(int i) {
        return in(i, 0, n - 2) ? stepRow()[i] : 10000;
    }

    private int profileBy(int[] row, int zone) {
        int sum = 0;
        for (int i = 0; i < zone; i++) {
            if (row[i] == GAP) {
                return 1000000;
            }
            sum += row[i];
        }
        return sum;
    }

    int profile(int zone) {
        return in(zone, 0, n - 1) ? profileBy(stepRow(), zone) : 2000000;
    }

    int wire(int i, int j, int v) {
        if (!in(i, 0, n - 1) || !in(j, 0, n - 1) || i >= j || !in(v, -100000, 100000)) {
            return -1;
        }
        if (wires.size() == 12) {
            return -3;
        }
        wires.add(new int[] {i, j, v});
        return wires.size();
    }

    int wires(int what) {
        if (what < 0 || what - 3 >= wires.size()) {
            return 2000000;
        }
        int[] row = stepRow();
        int[] kinds = new int[3];
        for (int k = 0; k < wires.size(); k++) {
            int[] wire = wires.get(k);
            int near = profileBy(row, wire[0]);
            int far = profileBy(row, wire[1]);
            boolean neither = near == 1000000 || far == 1000000;
            int off = neither ? 1000000 : wire[2] - (far - near);
            if (what == 3 + k) {
                return off;
            }
            kinds[neither ? 2 : Math.abs(off) <= lie * (wire[1] - wire[0]) ? 0 : 1]++;
        }
        return kinds[what];
    }

    int pull(int tool, int d, int v) {
        if (!in(tool, 0, 2) || !in(d, -2, 2) || !in(v, 0, 50)) {
            return -1;
        }
        int was = pulls[tool][d + 2];
        pulls[tool][d + 2] = v;
        return was;
    }

    int rest(int v) {
        if (!in(v, 0, 10000)) {
            return -1;
        }
        int was = rest;
        rest = v;
        return was;
    }

    private void wear(int[] row, int tool, int zone, int minutes) {
        for (int d = -2; d <= 2; d++) {
            if (in(zone + d, 0, n - 1)) {
                row[zone + d] -= minutes * pulls[tool][d + 2];
            }
        }
    }

    int stroke(int tool, int zone, int minutes) {
        if (!in(tool, 0, 2) || !in(zone, 0, n - 1) || !in(minutes, 1, 20)) {
            return -1000000;
        }
        int[] then = heights.clone();
        wear(then, tool, zone, minutes);
        if (Arrays.stream(then).min().getAsInt() < -100000) {
            return -1000002;
        }
        if (strokes.size() == 60) {
            return -1000003;
        }
        before.add(heights);
        strokes.add(new int[] {tool, zone, minutes});
        heights = then;
        return heights[zone];
    }

    int undo() {
        if (strokes.isEmpty()) {
            return -2;
        }
        strokes.remove(strokes.size() - 1);
        heights = before.remove(before.size() - 1);
        return strokes.size();
    }

    int replay(int zone, int k) {
        if (!in(zone, 0, n - 1) || !in(k, 0, strokes.size())) {
            return -1000000;
        }
        int[] row = told.clone();
        for (int[] stroke : strokes.subList(0, k)) {
            wear(row, stroke[0], stroke[1], stroke[2]);
        }
        return row[zone];
    }

    private boolean isRight(int height) {
        return in(height, 0, rest);
    }

    private int workedHeight(int tool, int zone, int[] minutes) {
        int height = heights[zone];
        for (int z = 0; z < minutes.length; z++) {
            if (in(zone - z, -2, 2)) {
                height -= minutes[z] * pulls[tool][zone - z + 2];
            }
        }
        return height;
    }

    /** Each choice of minutes is tried in order; how many zones come right, and the best plan. */
    private int[] tryAll(int tool, int[] bestPlan) {
        int[] minutes = new int[n];
        int right = 0;
        int together = -1;
        while (true) {
            int rightNow = 0;
            while (rightNow < n && isRight(workedHeight(tool, rightNow, minutes))) {
                rightNow++;
            }
            right = Math.max(right, rightNow);
            int sum = Arrays.stream(minutes).sum();
            if (rightNow == n && (together < 0 || sum < together)) {
                together = sum;
                System.arraycopy(minutes, 0, bestPlan, 0, n);
            }
            int zone = n - 1;
            while (zone >= 0 && minutes[zone] == 5) {
                minutes[zone--] = 0;
            }
            if (zone < 0) {
                return new int[] {right, together};
            }
            minutes[zone]++;
        }
    }

    /** From zone 0 on, for each four latest minutes the best row of minutes that leads there. */
    private int[] tryForward(int tool, int[] bestPlan) {
        Map<String, int[]> rows = new HashMap<>();
        rows.put("", new int[0]);
        int right = 0;
        for (int zone = 0; zone < n; zone++) {
            Map<String, int[]> next = new HashMap<>();
            for (int[] row : rows.values()) {
                for (int m = 0; m <= 5; m++) {
                    int[] longer = Arrays.copyOf(row, zone + 1);
                    longer[zone] = m;
                    if (zone < 2 || isRight(workedHeight(tool, zone - 2, longer))) {
                        int[] tail = Arrays.copyOfRange(longer, Math.max(0, zone - 3), zone + 1);
                        next.merge(Arrays.toString(tail), longer, PlainMirror::better);
                    }
                }
            }
            if (next.isEmpty()) {
                return new int[] {zone - 2, -1};
            }
            rows = next;
        }
        right = n - 2;
        int[] best = null;
        for (int[] row : rows.values()) {
            boolean one = isRight(workedHeight(tool, n - 2, row));
            boolean both = one && isRight(workedHeight(tool, n - 1, row));
            right = Math.max(right, both ? n : one ? n - 1 : n - 2);
            if (both) {
                best = best == null ? row : better(best, row);
            }
        }
        if (best == null) {
            return new int[] {right, -1};
        }
        System.arraycopy(best, 0, bestPlan, 0, n);
        return new int[] {n, Arrays.stream(best).sum()};
    }

    private static int[] better(int[] one, int[] other) {
        int first = Arrays.stream(one).sum();
        int second = Arrays.stream(other).sum();
        if (first != second) {
            return first < second ? one : other;
        }
        return Arrays.compare(one, other) <= 0 ? one : other;
    }

    private int[] tried(int tool, int[] bestPlan) {
        return n <= 5 ? tryAll(tool, bestPlan) : tryForward(tool, bestPlan);
    }

    int plan(int tool, int zone) {
        if (!in(tool, 0, 2) || !in(zone, -1, n - 1)) {
            return -1;
        }
        int[] minutes = new int[n];
        int[] found = tried(tool, minutes);
        if (found[1] < 0) {
            return -4;
        }
        return zone == -1 ? found[1] : minutes[zone];
    }

    int right(int tool) {
        return in(tool, 0, 2) ? tried(tool, new int[n])[0] : -1;
    }

    int work(int tool) {
        if (!in(tool, 0, 2)) {
            return -1;
        }
        int[] minutes = new int[n];
        if (tried(tool, minutes)[1] < 0) {
            return -2;
        }
        int needed = (int) Arrays.stream(minutes).filter(m -> m > 0).count();
        if (strokes.size() + needed > 60) {
            return -3;
        }
        for (int zone = 0; zone < n; zone++) {
            if (minutes[zone] > 0 && stroke(tool, zone, minutes[zone]) <= -1000000) {
                throw new IllegalStateException("a stroke of the plan was refused");
            }
        }
        return needed;
    }

    int bend(int ring, int zone, int v) {
        if (!in(ring, 0, 6) || !in(zone, 0, n - 1) || !in(v, -500, 500)) {
            return -1000;
        }
        int was = bends[ring][zone];
        bends[ring][zone] = v;
        return was;
    }

    /** Spread, then the shares. */
    private int[] bestShares() {
        int[] best = null;
        int[] s = new int[6];
        for (int code = 0; code < 13 * 13 * 13 * 13 * 13; code++) {
            int rest = code;
            int bearing = 0;
            s[5] = 12;
            for (int ring = 4; ring >= 0; ring--) {
                s[ring] = rest % 13;
                rest /= 13;
                s[5] -= s[ring];
                bearing += s[ring] > 0 ? 1 : 0;
            }
            if (s[5] >= 0 && bearing + (s[5] > 0 ? 1 : 0) <= 3) {
                int spread = spreadBy(s);
                // later codes have more of ring 0, then of 1, ..
                if (best == null || spread <= best[0]) {
                    best = new int[] {spread, s[0], s[1], s[2], s[3], s[4], s[5]};
                }
            }
        }
        return best;
    }

    private int spreadBy(int[] s) {
        int least = Integer.MAX_VALUE;
        int most = Integer.MIN_VALUE;
        for (int zone = 0; zone < n; zone++) {
            int bent = 12 * bends[6][zone];
            for (int ring = 0; ring < 6; ring++) {
                bent -= s[ring] * bends[ring][zone];
            }
            least = Math.min(least, bent);
            most = Math.max(most, bent);
        }
        return most - least;
    }

    int bear(int ring) {
        return in(ring, -1, 5) ? bestShares()[ring + 1] : -1;
    }

    int warm(int shell, int v) {
        if (!in(shell, 0, 8) || !in(v, -100000, 100000)) {
            return -1000000;
        }
        int was = warmth(shell);
        if (shell == 8) {
            air = v;
        } else {
            shells[shell] = v;
        }
        return was;
    }

    private int[] minute(int[] row) {
        int[] next = new int[8];
        for (int k = 0; k < 8; k++) {
            int ahead = k == 0 ? air : row[k - 1];
            int behind = k == 7 ? air : row[k + 1];
            int more = ahead + behind - 2 * row[k];
            next[k] = row[k] + (more - ((more % 4) + 4) % 4) / 4;
        }
        return next;
    }

    int cool(int minutes) {
        if (!in(minutes, 1, 1000)) {
            return -1;
        }
        for (int k = 0; k < minutes; k++) {
            shells = minute(shells);
        }
        return Arrays.stream(shells).max().getAsInt() - Arrays.stream(shells).min().getAsInt();
    }

    int still(int e) {
        if (!in(e, 0, 100000)) {
            return -1;
        }
        int[] row = shells;
        for (int minute = 0; minute <= 2000; minute++) {
            int most = Math.max(air, Arrays.stream(row).max().getAsInt());
            int least = Math.min(air, Arrays.stream(row).min().getAsInt());
            if (most - least <= e) {
                return minute;
            }
            row = minute(row);
        }
        return -4;
    }

    int warmth(int shell) {
        return in(shell, 0, 8) ? shell == 8 ? air : shells[shell] : -1000000;
    }

    int grit(int takes, int pits) {
        if (!in(takes, 1, 100) || !in(pits, 0, 200)) {
            return -1;
        }
        if (grits.size() == 6) {
            return -3;
        }
        grits.add(new int[] {takes, pits});
        return grits.size() - 1;
    }

    int slack(int v) {
        if (!in(v, 0, 100)) {
            return -1;
        }
        int was = slack;
        slack = v;
        return was;
    }

    /** The best wets of grits from i on, or null; what is known is kept by what it hangs on. */
    private int[] bestWets(int i, int latest, int low, Map<Integer, int[]> known) {
        if (i == grits.size()) {
            return latest == i - 1 && low <= 0 && low + slack >= 0 ? new int[0] : null;
        }
        int key = ((i * 7) + latest + 1) * 10000 + low + 5000;
        if (known.containsKey(key)) {
            return known.get(key);
        }
        int[] best = null;
        for (int wets = 0; wets <= 30; wets++) {
            int taken = wets * grits.get(i)[0];
            if (taken > low + slack) {
                break;
            }
            if (wets == 0 || latest < 0 || taken >= 3 * grits.get(latest)[1]) {
                int[] rest = bestWets(i + 1, wets > 0 ? i : latest, low - taken, known);
                if (rest != null) {
                    int[] row = new int[rest.length + 1];
                    row[0] = wets;
                    System.arraycopy(rest, 0, row, 1, rest.length);
                    best = best == null ? row : fewer(best, row);
                }
            }
        }
        known.put(key, best);
        return best;
    }

    private static int[] fewer(int[] one, int[] other) {
        int first = Arrays.stream(one).sum();
        int second = Arrays.stream(other).sum();
        if (first != second) {
            return first < second ? one : other;
        }
        return Arrays.compare(one, other) >= 0 ? one : other;
    }

    int wets(int depth, int i) {
        if (!in(depth, 1, 2000) || !in(i, -1, grits.size() - 1)) {
            return -1;
        }
        int[] best = grits.isEmpty() ? null : bestWets(0, -1, depth, new HashMap<>());
        if (best == null) {
            return -4;
        }
        return i == -1 ? Arrays.stream(best).sum() : best[i];
    }

    int count(int what) {
        switch (what) {
            case 0: return n;
            case 1: return (int) Arrays.stream(readings).flatMap(Arrays::stream).filter(r -> r != null).count();
            case 2: return wires.size();
            case 3: return strokes.size();
            case 4: return strokes.stream().mapToInt(s -> s[2]).sum();
            case 5: return grits.size();
            default: return -1;
        }
    }
}
