/** The edges of promises 22 and 23: bend, bear. */
public final class RingsEdgesTest {
    private static final Check check = new Check("RingsEdgesTest");
    private static final Edges edges = new Edges(check);

    public static void main(String[] args) {
        bendRanges();
        bendOnTheDisc();
        bearRange();
        bearLeastAndMost();
        bearTwelveTogether();
        bearThreeAtMost();
        bearFewer();
        bearOfSeveral();
        bearFollows();
        check.end();
    }

    private static void sharesAre(MirrorTrue x, String sentence, int spread, int... shares) {
        check.due(sentence + ": SPREAD", x.bear(-1), spread);
        for (int ring = 0; ring < 6; ring++) {
            check.due(sentence + ": RING " + ring, x.bear(ring), shares[ring]);
        }
    }

    private static MirrorTrue discOfFour() {
        MirrorTrue x = new MirrorTrue();
        x.disc(4);
        return x;
    }

    // ---- 22: bend

    private static void bendRanges() {
        edges.range("P22 RINGS 0 to 5, 6 is SAG", 0, -11, 6, 20, (x, v) -> x.bend(v, 0, 1), -1000);
        edges.range("P22 ZONES 0 to n - 1", 0, 20, 4, -16, (x, v) -> x.bend(6, v, 1), -1000);
        edges.range("P22 BEND -500 to 500", -500, 1, 500, 1, (x, v) -> x.bend(5, 0, v), -1000);
        edges.range("P22 SAG -500 to 500", -500, 20, 500, 20, (x, v) -> x.bend(6, 0, v), -1000);
    }

    private static void bendOnTheDisc() {
        MirrorTrue x = discOfFour();
        for (int ring = 0; ring <= 6; ring++) {
            check.due("P22 the least", x.bend(ring, 3, -500), 0);
            check.due("P22 what it was", x.bend(ring, 3, 500), -500);
            check.due("P22 what it was", x.bend(ring, 3, 0), 500);
            check.due("P22 no other ZONE", x.bend(ring, 2, 0), 0);
        }
        check.due("P22 no other RING", x.bear(-1), 0);
    }

    // ---- 23: bear

    private static void bearRange() {
        edges.range("P23 RINGS -1 to 5", -1, 408, 5, 0, (x, v) -> x.bear(v), MirrorTrue.BAD);
        edges.refuses("P23 no share of SAG", x -> x.bear(6), MirrorTrue.BAD);
        edges.asks("P23 SPREAD is only asked", x -> x.bear(-1), 408);
        edges.asks("P23 a share is only asked", x -> x.bear(5), 0);
    }

    private static void bearLeastAndMost() {
        MirrorTrue x = discOfFour();
        x.bend(6, 0, 500);
        x.bend(6, 3, -500);
        sharesAre(x, "P23 WEIGHT as great as can be", 12000, 12, 0, 0, 0, 0, 0);
        for (int ring = 0; ring < 6; ring++) {
            x.bend(ring, 0, -500);
            x.bend(ring, 3, 500);
        }
        sharesAre(x, "P23 the greatest SPREAD there can be", 24000, 12, 0, 0, 0, 0, 0);
        x.bend(5, 0, 500);
        x.bend(5, 3, -500);
        sharesAre(x, "P23 the least SPREAD there can be", 0, 0, 0, 0, 0, 0, 12);
        x.disc(16);
        x.bend(6, 15, 1);
        sharesAre(x, "P23 the last of 16 ZONES counts", 12, 12, 0, 0, 0, 0, 0);
    }

    private static void bearTwelveTogether() {
        MirrorTrue x = discOfFour();
        x.bend(6, 1, 1);
        for (int ring = 0; ring < 6; ring++) {
            x.bend(ring, 1, 3);
        }
        // 4 of 12 would do; what else is there bears no less
        sharesAre(x, "P23 12 together, no less", 24, 12, 0, 0, 0, 0, 0);
        x.bend(3, 1, 0);
        sharesAre(x, "P23 12 together with one that does not bend", 0, 4, 0, 0, 8, 0, 0);
    }

    private static void bearThreeAtMost() {
        MirrorTrue x = discOfFour();
        for (int zone = 0; zone < 4; zone++) {
            x.bend(6, zone, 1);
            x.bend(zone + 1, zone, 4);
            x.bend(0, zone, zone == 0 ? 500 : 0);
            x.bend(5, zone, zone == 0 ? 500 : 0);
        }
        // 3 of each of four RINGS would leave nothing; of three, 4 each
        sharesAre(x, "P23 three RINGS at most", 16, 0, 4, 4, 4, 0, 0);
        x.bend(6, 3, 0);
        // -4 each by 4 twelfths, 0 at ZONE 3
        sharesAre(x, "P23 three RINGS", 4, 0, 4, 4, 4, 0, 0);
    }

    private static void bearFewer() {
        MirrorTrue x = discOfFour();
        for (int ring = 0; ring < 6; ring++) {
            x.bend(ring, 0, 500);
        }
        x.bend(4, 0, 7);
        x.bend(6, 0, 7);
        sharesAre(x, "P23 one RING bears all", 0, 0, 0, 0, 0, 12, 0);
        x.bend(4, 0, 14);
        x.bend(5, 0, 0);
        sharesAre(x, "P23 two RINGS bear", 0, 0, 0, 0, 0, 6, 6);
    }

    private static void bearOfSeveral() {
        MirrorTrue x = discOfFour();
        x.bend(6, 0, 2);
        x.bend(0, 0, 6);
        x.bend(1, 0, 4);
        x.bend(2, 0, 3);
        // 24 by 6, 4, 3 and 0 a twelfth: 4 of RING 0, the other 8 bear nothing
        sharesAre(x, "P23 more of RING 0, then of 3 before 4 and 5", 0, 4, 0, 0, 8, 0, 0);
        x.bend(3, 0, 1);
        x.bend(4, 0, 1);
        x.bend(5, 0, 1);
        // now each twelfth bears 1 at least: 24 is 2 times 6, 3 and 9 times 1; 3 times 6 would leave 6 for 9
        sharesAre(x, "P23 more of RING 0 comes first", 0, 2, 0, 1, 9, 0, 0);
        MirrorTrue y = discOfFour();
        y.bend(6, 0, 5);
        for (int ring = 1; ring < 6; ring++) {
            y.bend(ring, 0, ring < 3 ? 10 : 5);
        }
        // RING 0 with 6, RING 1 with 6, or RINGS 3 to 5 alone
        sharesAre(y, "P23 more of RING 0, then of RING 1", 0, 6, 6, 0, 0, 0, 0);
        y.bend(0, 0, 500);
        sharesAre(y, "P23 then of RING 3", 0, 0, 0, 0, 12, 0, 0);
    }

    private static void bearFollows() {
        MirrorTrue x = discOfFour();
        check.due("P23 at first", x.bear(-1), 0);
        x.bend(6, 0, 3);
        check.due("P23 by another SAG", x.bear(-1), 36);
        x.bend(2, 0, 3);
        check.due("P23 by another BEND", x.bear(2), 12);
        x.disc(4);
        check.due("P23 on another DISC", x.bear(2), 0);
    }
}
