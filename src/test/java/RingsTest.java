/** Promises 22 and 23: bends, and the shares of the rings. */
public final class RingsTest {
    private static final Check check = new Check("RingsTest");

    public static void main(String[] args) {
        newRings();
        bend();
        bearPlain();
        bearThreeAtMost();
        bearTies();
        check.end();
    }

    private static void sharesAre(MirrorTrue x, String what, int spread, int... shares) {
        check.due(what + ": spread", x.bear(-1), spread);
        for (int ring = 0; ring < 6; ring++) {
            check.due(what + ": ring " + ring, x.bear(ring), shares[ring]);
        }
    }

    private static void newRings() {
        MirrorTrue x = new MirrorTrue();
        check.due("ring 0 bears all", x.bear(0), 12);
        check.due("ring 5 bears nothing", x.bear(5), 0);
        check.due("nothing bends", x.bear(-1), 0);
    }

    private static void bend() {
        MirrorTrue x = new MirrorTrue();
        x.disc(4);
        for (int ring = 0; ring <= 6; ring++) {
            check.due("bend", x.bend(ring, 3, 500), 0);
            check.due("bend again", x.bend(ring, 3, -500), 500);
            check.due("another zone", x.bend(ring, 2, 0), 0);
        }
        int[][] bad = {{-1, 0, 0}, {7, 0, 0}, {0, -1, 0}, {0, 4, 0}, {0, 0, 501}, {0, 0, -501}};
        for (int[] row : bad) {
            check.due("bend(" + row[0] + ", " + row[1] + ", " + row[2] + ")",
                    x.bend(row[0], row[1], row[2]), -1000);
        }
        check.due("bear(-2)", x.bear(-2), MirrorTrue.BAD);
        check.due("bear(6)", x.bear(6), MirrorTrue.BAD);
    }

    private static void bearPlain() {
        MirrorTrue x = new MirrorTrue();
        x.disc(4);
        sharesAre(x, "nothing bends", 0, 12, 0, 0, 0, 0, 0);
        x.bend(6, 0, 500);
        x.bend(6, 1, -500);
        sharesAre(x, "weight alone", 12000, 12, 0, 0, 0, 0, 0);
        x.bend(5, 0, 500);
        x.bend(5, 1, -500);
        sharesAre(x, "the last ring holds it", 0, 0, 0, 0, 0, 0, 12);
        x.bend(2, 0, 500);
        x.bend(3, 1, -500);
        // ring 2 takes one side, ring 3 the other: half each is worse than ring 5 alone
        sharesAre(x, "still the last", 0, 0, 0, 0, 0, 0, 12);
        x.bend(5, 0, 0);
        x.bend(5, 1, 0);
        // 6000 - 500 a against -6000 + 500 b, a and b 12 together: 6000 apart however shared
        sharesAre(x, "more of the first", 6000, 0, 0, 12, 0, 0, 0);
        check.due("another disc", x.disc(5), 5);
        sharesAre(x, "anew", 0, 12, 0, 0, 0, 0, 0);
    }

    private static void bearThreeAtMost() {
        MirrorTrue x = new MirrorTrue();
        x.disc(4);
        for (int zone = 0; zone < 4; zone++) {
            x.bend(6, zone, zone < 3 ? 2 : -1);
            x.bend(zone, zone, 8);
        }
        x.bend(4, 0, 500);
        x.bend(5, 0, 500);
        // 24, 24, 24, -12 less 8 times each share: rings 0 to 2, 4 each, leave -8, -8, -8, -12
        sharesAre(x, "three bear", 4, 4, 4, 4, 0, 0, 0);
        x.bend(6, 3, 2);
        // four rings would bear it evenly; three leave a zone at 24, the one of the most at 24 - 32
        sharesAre(x, "three at most", 32, 4, 4, 4, 0, 0, 0);
    }

    private static void bearTies() {
        MirrorTrue x = new MirrorTrue();
        x.disc(4);
        // rings 1 and 4 bend alike, ring 0 not at all: what is needed is 12 of 1 or 4
        x.bend(6, 0, 10);
        x.bend(1, 0, 20);
        x.bend(4, 0, 20);
        sharesAre(x, "ring 0 bears the other half", 0, 6, 6, 0, 0, 0, 0);
        x.bend(0, 0, -500);
        sharesAre(x, "ring 1 rather than 4, then ring 2", 0, 0, 6, 6, 0, 0, 0);
        x.bend(2, 1, 100);
        sharesAre(x, "ring 3", 0, 0, 6, 0, 6, 0, 0);
    }
}
