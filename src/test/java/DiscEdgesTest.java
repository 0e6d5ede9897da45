import java.math.BigInteger;

/** The edges of promises 1 to 6 and 31: a new object, disc, aim, depth, height, at, count. */
public final class DiscEdgesTest {
    private static final int BAD = MirrorTrue.BAD;
    private static final int NO = MirrorTrue.NO;
    private static final int NONE = MirrorTrue.NONE;
    private static final int GAP = 5000;
    private static final int BAD_HEIGHT = -1000000;
    private static final long BAD_DEPTH = -1000000000000000000L;
    private static final Check check = new Check("DiscEdgesTest");
    private static final Edges edges = new Edges(check);

    public static void main(String[] args) {
        newDisc();
        newTests();
        newStrokes();
        newRingsShellsGrits();
        objectsShareNothing();
        discRange();
        discMakesAnew();
        discOfSameSize();
        discHidesNothing();
        discKeepsTheRest();
        discMovesTheEdges();
        aimRanges();
        depthRanges();
        depthSigns();
        depthOfLargeNumbers();
        heightRanges();
        heightLetsStrokesGo();
        atRange();
        countRange();
        countOfNone();
        countOfMost();
        lastCalls();
        check.end();
    }

    // ---- 1: a new object

    private static void newDisc() {
        MirrorTrue x = new MirrorTrue();
        check.due("P1 8 ZONES at first", x.count(0), 8);
        check.due("P1 8 ZONES at first: the last", x.at(7), 0);
        check.due("P1 8 ZONES at first: none behind", x.at(8), BAD_HEIGHT);
        for (int zone = 0; zone < 8; zone++) {
            check.due("P1 HEIGHT 0 at first, " + zone, x.at(zone), 0);
            check.due("P1 HEIGHT 0 as told at first, " + zone, x.replay(zone, 0), 0);
        }
        // by R 1000 alone, since 1 + K is 0
        check.due("P1 R 1000, K -1 at first: above", x.depth(200, 0), 20);
        check.due("P1 R 1000, K -1 at first: below", x.depth(200, 1), 1);
        check.due("P1 R 1000, K -1 at first, at 1: above", x.depth(1, 0), 1);
        check.due("P1 R 1000, K -1 at first, at 1: below", x.depth(1, 1), 2000);
    }

    private static void newTests() {
        MirrorTrue x = new MirrorTrue();
        check.due("P1 no READINGS told", x.count(1), 0);
        check.due("P1 LIE 2 at first", x.lie(2), 2);
        check.due("P1 no WIRES", x.count(2), 0);
        for (int what = 0; what < 3; what++) {
            check.due("P1 none DROPPED, no SHIFT, " + what, x.joined(what), 0);
            check.due("P1 no WIRES of kind " + what, x.wires(what), 0);
        }
        check.due("P1 no WIRE 0", x.wires(3), 2000000);
        check.due("P1 PROFILE of ZONE 0", x.profile(0), 0);
        for (int i = 0; i < 7; i++) {
            check.due("P1 STEP is a GAP, " + i, x.step(i), GAP);
            check.due("P1 no PROFILE, " + (i + 1), x.profile(i + 1), 1000000);
            for (int test = 0; test < 3; test++) {
                check.due("P1 GAPS at first, " + test + " " + i, x.read(test, i, GAP), GAP);
            }
        }
    }

    private static void newStrokes() {
        MirrorTrue x = new MirrorTrue();
        check.due("P1 no STROKES", x.count(3), 0);
        check.due("P1 no minutes", x.count(4), 0);
        check.due("P1 none to be UNDONE", x.undo(), NO);
        check.due("P1 none to be REPLAYED", x.replay(0, 1), BAD_HEIGHT);
        check.due("P1 REST 10 at first", x.rest(10), 10);
        for (int tool = 0; tool < 3; tool++) {
            check.due("P1 all is right, " + tool, x.right(tool), 8);
            check.due("P1 PLAN of no minutes, " + tool, x.plan(tool, -1), 0);
            for (int d = -2; d <= 2; d++) {
                check.due("P1 PULL 0 at first, " + tool + " " + d, x.pull(tool, d, 0), 0);
            }
        }
    }

    private static void newRingsShellsGrits() {
        MirrorTrue x = new MirrorTrue();
        check.due("P1 SPREAD 0", x.bear(-1), 0);
        check.due("P1 all of RING 0", x.bear(0), 12);
        for (int ring = 0; ring <= 6; ring++) {
            for (int zone = 0; zone < 8; zone++) {
                check.due("P1 BEND, SAG 0 at first, " + ring + " " + zone, x.bend(ring, zone, 0), 0);
            }
        }
        for (int shell = 0; shell <= 8; shell++) {
            check.due("P1 WARMTH, AIR 0 at first, " + shell, x.warmth(shell), 0);
        }
        check.due("P1 STILL at once", x.still(0), 0);
        check.due("P1 no GRITS", x.count(5), 0);
        check.due("P1 no WETS", x.wets(1, -1), NONE);
        check.due("P1 SLACK 0 at first", x.slack(0), 0);
    }

    private static void objectsShareNothing() {
        Told.full(new MirrorTrue());
        String difference = Snapshot.difference(new MirrorTrue(), new MirrorTrue());
        check.holds("P1 two new objects are alike, but " + difference, difference.isEmpty());
        MirrorTrue x = new MirrorTrue();
        MirrorTrue y = new MirrorTrue();
        Told.full(y);
        difference = Snapshot.difference(x, new MirrorTrue());
        check.holds("P1 another object tells this one nothing, but " + difference, difference.isEmpty());
    }

    // ---- 2: disc

    private static void discRange() {
        edges.range("P2 n 4 to 16", 4, 4, 16, 16, (x, v) -> x.disc(v), BAD);
        edges.refuses("P2 n 0", x -> x.disc(0), BAD);
        edges.refuses("P2 n -4", x -> x.disc(-4), BAD);
        edges.refuses("P2 n BAD, all full", Told::full, x -> x.disc(17), BAD);
    }

    private static void discMakesAnew() {
        for (int n : new int[] {4, 5, 16}) {
            MirrorTrue x = new MirrorTrue();
            Told.full(x);
            check.due("P2 DROPPED before", x.joined(0), 1);
            check.due("P2 STEP before", x.step(0), 13);
            check.due("P2 SPREAD before", x.bear(-1), 408);
            check.due("P2 no PLAN before", x.plan(2, -1), NONE);
            x.disc(n);
            check.due("P2 n ZONES", x.count(0), n);
            check.due("P2 READINGS go", x.count(1), 0);
            check.due("P2 WIRES go", x.count(2), 0);
            check.due("P2 no WIRE 0", x.wires(3), 2000000);
            check.due("P2 STROKES go", x.count(3), 0);
            check.due("P2 their minutes go", x.count(4), 0);
            check.due("P2 none to be UNDONE", x.undo(), NO);
            check.due("P2 none to be REPLAYED", x.replay(0, 1), BAD_HEIGHT);
            check.due("P2 SPREAD as at first", x.bear(-1), 0);
            check.due("P2 all of RING 0 as at first", x.bear(0), 12);
            check.due("P2 none DROPPED", x.joined(0), 0);
            check.due("P2 STEP is a GAP", x.step(0), GAP);
            check.due("P2 THE PLAN of no minutes", x.plan(2, -1), 0);
            zonesAreNew(x, n);
        }
    }

    private static void zonesAreNew(MirrorTrue x, int n) {
        for (int zone = 0; zone < n; zone++) {
            check.due("P2 HEIGHTS as at first", x.at(zone), 0);
            check.due("P2 HEIGHTS as told are so", x.replay(zone, 0), 0);
            for (int ring = 0; ring <= 6; ring++) {
                check.due("P2 BENDS, SAGS as at first", x.bend(ring, zone, 0), 0);
            }
            for (int test = 0; test < 3 && zone < n - 1; test++) {
                check.due("P2 READINGS as at first", x.read(test, zone, GAP), GAP);
            }
        }
    }

    private static void discOfSameSize() {
        MirrorTrue x = new MirrorTrue();
        x.height(7, 9);
        x.read(0, 6, 9);
        x.bend(6, 7, 9);
        check.due("P2 as large as it is", x.disc(8), 8);
        check.due("P2 HEIGHT anew", x.at(7), 0);
        check.due("P2 READING anew", x.read(0, 6, 1), GAP);
        check.due("P2 SAG anew", x.bend(6, 7, 1), 0);
    }

    private static void discHidesNothing() {
        MirrorTrue x = new MirrorTrue();
        x.disc(16);
        x.height(15, 9);
        x.bend(3, 15, 9);
        x.bend(6, 15, 9);
        x.read(2, 14, 9);
        x.disc(4);
        check.due("P2 no READING is left behind the rim", x.count(1), 0);
        check.due("P2 what is behind the rim does not bend", x.bear(-1), 0);
        x.disc(16);
        check.due("P2 HEIGHT at the rim anew", x.at(15), 0);
        check.due("P2 BEND at the rim anew", x.bend(3, 15, 0), 0);
        check.due("P2 SAG at the rim anew", x.bend(6, 15, 0), 0);
        check.due("P2 READING at the rim anew", x.read(2, 14, GAP), GAP);
    }

    private static void discKeepsTheRest() {
        MirrorTrue x = new MirrorTrue();
        Told.full(x);
        x.disc(6);
        check.due("P2 AIM stays: above", x.depth(200, 0), 6400);
        check.due("P2 AIM stays: below", x.depth(200, 1), 81);
        check.due("P2 LIE stays", x.lie(3), 3);
        check.due("P2 REST stays", x.rest(25), 25);
        check.due("P2 PULLS stay", x.pull(0, 0, 3), 3);
        check.due("P2 PULLS stay at the end", x.pull(2, 0, 7), 7);
        check.due("P2 WARMTH stays", x.warmth(7), 367);
        check.due("P2 AIR stays", x.warmth(8), 57);
        check.due("P2 GRITS stay", x.count(5), 6);
        check.due("P2 SLACK stays", x.slack(4), 4);
    }

    private static void discMovesTheEdges() {
        for (int n = 4; n <= 16; n++) {
            MirrorTrue x = new MirrorTrue();
            x.disc(n);
            check.due("P2 the last ZONE of " + n, x.height(n - 1, 3), 0);
            check.due("P2 no ZONE " + n, x.height(n, 3), BAD_HEIGHT);
            check.due("P2 the last STEP of " + n, x.read(0, n - 2, 2), GAP);
            check.due("P2 no STEP " + (n - 1), x.read(0, n - 1, 2), 10000);
            check.due("P2 the last WIRE of " + n, x.wire(n - 2, n - 1, 3), 1);
            check.due("P2 no WIRE to " + n, x.wire(n - 2, n, 3), BAD);
            check.due("P2 the last BEND of " + n, x.bend(5, n - 1, 3), 0);
            check.due("P2 no BEND of " + n, x.bend(5, n, 3), -1000);
            check.due("P2 the last STROKE of " + n, x.stroke(0, n - 1, 1), 3);
            check.due("P2 no STROKE of " + n, x.stroke(0, n, 1), BAD_HEIGHT);
            check.due("P2 the last of the PLAN of " + n, x.plan(0, n - 1), 0);
            check.due("P2 none of the PLAN behind " + n, x.plan(0, n), BAD);
            check.due("P2 all " + n + " are right", x.right(0), n);
        }
    }

    // ---- 3, 4: aim, depth

    private static void aimRanges() {
        edges.range("P3 R 100 to 5000", 100, 0, 5000, 0, (x, v) -> x.aim(v, 0, 1), BAD);
        edges.range("P3 a -30 to 30", -30, 0, 30, 0, (x, v) -> x.aim(700, v, 1), BAD);
        edges.range("P3 b 1 to 10", 1, 0, 10, 0, (x, v) -> x.aim(700, 0, v), BAD);
        edges.refuses("P3 b -1", x -> x.aim(700, 0, -1), BAD);
        MirrorTrue x = new MirrorTrue();
        x.aim(100, 30, 10);
        // 2 2 by 200 and 4 times 16 by 8000000
        check.due("P3 the least R, the greatest a and b: above", x.depth(2, 0), 2500 + 1);
        check.due("P3 the least R, the greatest a and b: below", x.depth(2, 1), 125000);
    }

    private static void depthRanges() {
        edges.range("P4 r 0 to 200, above", 0, 0, 200, 6400, (x, v) -> x.depth(v, 0), BAD_DEPTH);
        edges.range("P4 r 0 to 200, below", 0, 1, 200, 81, (x, v) -> x.depth(v, 1), BAD_DEPTH);
        edges.range("P4 part 0, 1", 0, 6400, 1, 81, (x, v) -> x.depth(200, v), BAD_DEPTH);
        edges.asks("P4 above is only asked", x -> x.depth(200, 0), 6400);
        edges.asks("P4 below is only asked", x -> x.depth(200, 1), 81);
        edges.refuses("P4 neither r nor part", x -> x.depth(201, 2), BAD_DEPTH);
    }

    private static void depthSigns() {
        MirrorTrue x = new MirrorTrue();
        x.aim(100, -30, 1);
        // 200 less 29 times 200
        check.due("P4 below 0: above", x.depth(200, 0), -5600);
        check.due("P4 below is above 0", x.depth(200, 1), 1);
        x.aim(100, -2, 1);
        check.due("P4 nothing: above", x.depth(200, 0), 0);
        check.due("P4 nothing in lowest terms: below", x.depth(200, 1), 1);
        x.aim(5000, -30, 10);
        check.due("P4 at 0: above", x.depth(0, 0), 0);
        check.due("P4 at 0 in lowest terms: below", x.depth(0, 1), 1);
    }

    private static void depthOfLargeNumbers() {
        MirrorTrue x = new MirrorTrue();
        int[] edge = {100, 101, 4999, 5000};
        for (int k = 0; k < 48; k++) {
            int radius = edge[k % 4];
            int a = new int[] {-30, -29, 30}[k / 4 % 3];
            int b = new int[] {1, 7, 9, 10}[k / 12];
            x.aim(radius, a, b);
            for (int r : new int[] {1, 197, 199, 200}) {
                depthIs(x, "P4 lowest terms of large numbers: " + radius + " " + a + " " + b, r,
                        new int[] {radius, a, b});
            }
        }
    }

    private static void depthIs(MirrorTrue x, String what, int r, int[] aim) {
        BigInteger square = BigInteger.valueOf((long) r * r);
        BigInteger below1 = BigInteger.valueOf(2L * aim[0]);
        BigInteger above2 = square.pow(2).multiply(BigInteger.valueOf(aim[1] + aim[2]));
        BigInteger below2 = BigInteger.valueOf(aim[0]).pow(3).multiply(BigInteger.valueOf(8L * aim[2]));
        BigInteger above = square.multiply(below2).add(above2.multiply(below1));
        BigInteger below = below1.multiply(below2);
        BigInteger shared = above.gcd(below);
        check.due(what + ": above", x.depth(r, 0), above.divide(shared).longValueExact());
        check.due(what + ": below", x.depth(r, 1), below.divide(shared).longValueExact());
    }

    // ---- 5, 6: height, at

    private static void heightRanges() {
        edges.range("P5 ZONES 0 to n - 1", 0, 31, 4, 39, (x, v) -> x.height(v, 1), BAD_HEIGHT);
        edges.range("P5 HEIGHT -100000 to 100000", -100000, 31, 100000, 31,
                (x, v) -> x.height(0, v), BAD_HEIGHT);
        edges.refuses("P5 neither ZONE nor HEIGHT", x -> x.height(5, 100001), BAD_HEIGHT);
        MirrorTrue x = Told.disc(0, 0, 0, 0);
        x.height(3, -100000);
        check.due("P5 the least HEIGHT stands", x.at(3), -100000);
        check.due("P5 what it was", x.height(3, 100000), -100000);
        check.due("P5 the greatest HEIGHT stands", x.at(3), 100000);
        check.due("P5 what it was", x.height(3, 100000), 100000);
    }

    private static void heightLetsStrokesGo() {
        MirrorTrue x = new MirrorTrue();
        Told.all(x);
        check.due("P5 what it was: as the STROKES left it", x.height(1, 51), 51);
        check.due("P5 STROKES go, though HEIGHT was so", x.count(3), 0);
        check.due("P5 minutes go", x.count(4), 0);
        check.due("P5 none to be UNDONE", x.undo(), NO);
        check.due("P5 none to be REPLAYED", x.replay(0, 1), BAD_HEIGHT);
        int[] heights = {31, 51, 54, 45, 39};
        for (int zone = 0; zone < 5; zone++) {
            check.due("P5 HEIGHTS stay as they are", x.at(zone), heights[zone]);
            check.due("P5 so they are told", x.replay(zone, 0), heights[zone]);
        }
        check.due("P5 WIRES stay", x.count(2), 3);
        check.due("P5 READINGS stay", x.count(1), 8);
        MirrorTrue full = new MirrorTrue();
        Told.full(full);
        full.height(0, 0);
        check.due("P5 room for STROKES again", full.stroke(2, 0, 1), -7);
        check.due("P5 the first one", full.count(3), 1);
    }

    private static void atRange() {
        edges.range("P6 ZONES 0 to n - 1", 0, 31, 4, 39, (x, v) -> x.at(v), BAD_HEIGHT);
        edges.asks("P6 HEIGHT is only asked", x -> x.at(2), 54);
    }

    // ---- 31: count

    private static void countRange() {
        edges.range("P31 what 0 to 5", 0, 5, 5, 3, (x, v) -> x.count(v), BAD);
        edges.asks("P31 ZONES", x -> x.count(0), 5);
        edges.asks("P31 READINGS told, no GAPS", x -> x.count(1), 8);
        edges.asks("P31 WIRES", x -> x.count(2), 3);
        edges.asks("P31 STROKES", x -> x.count(3), 3);
        edges.asks("P31 minutes", x -> x.count(4), 6);
        edges.asks("P31 GRITS", x -> x.count(5), 3);
    }

    private static void countOfNone() {
        MirrorTrue x = new MirrorTrue();
        Told.all(x);
        for (int i = 0; i < 3; i++) {
            for (int test = 0; test < 3; test++) {
                x.read(test, i, GAP);
            }
        }
        check.due("P31 READINGS that became GAPS do not count", x.count(1), 0);
        x.read(2, 3, GAP);
        check.due("P31 nor a GAP that stays one", x.count(1), 0);
        x.read(2, 3, 0);
        x.read(2, 3, 1);
        check.due("P31 a READING told twice counts once", x.count(1), 1);
        for (int k = 0; k < 3; k++) {
            x.undo();
        }
        check.due("P31 no STROKES left", x.count(3), 0);
        check.due("P31 no minutes left", x.count(4), 0);
    }

    private static void countOfMost() {
        MirrorTrue x = new MirrorTrue();
        x.disc(16);
        for (int i = 0; i < 15; i++) {
            for (int test = 0; test < 3; test++) {
                x.read(test, i, 1000);
            }
        }
        check.due("P31 all READINGS there can be", x.count(1), 45);
        for (int k = 0; k < 60; k++) {
            x.stroke(0, k % 16, 20);
        }
        check.due("P31 all STROKES there can be", x.count(3), 60);
        check.due("P31 all minutes there can be", x.count(4), 1200);
        for (int k = 0; k < 12; k++) {
            x.wire(0, 15, k);
        }
        check.due("P31 all WIRES there can be", x.count(2), 12);
        for (int k = 0; k < 6; k++) {
            x.grit(1, 0);
        }
        check.due("P31 all GRITS there can be", x.count(5), 6);
        check.due("P31 all ZONES there can be", x.count(0), 16);
    }

    // ---- 'at most 512 calls'

    private static void lastCalls() {
        MirrorTrue x = new MirrorTrue();
        x.disc(16);
        for (int k = 2; k < 512; k++) {
            x.height(15, k);
        }
        check.due("the 512th call", x.at(15), 511);
    }
}
