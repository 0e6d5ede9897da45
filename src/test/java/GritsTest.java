/** Promises 28 to 30: grits, slack, wets. */
public final class GritsTest {
    private static final Check check = new Check("GritsTest");

    public static void main(String[] args) {
        grit();
        slack();
        wetsOfOne();
        wetsOfTwo();
        wetsSkipGrits();
        wetsTies();
        wetsOfSix();
        check.end();
    }

    private static void wetsAre(MirrorTrue x, String what, int depth, int together, int... wets) {
        check.due(what + ": together", x.wets(depth, -1), together);
        for (int grit = 0; grit < wets.length; grit++) {
            check.due(what + ": grit " + grit, x.wets(depth, grit), wets[grit]);
        }
    }

    private static void grit() {
        MirrorTrue x = new MirrorTrue();
        int[][] bad = {{0, 0}, {101, 0}, {1, -1}, {1, 201}, {-1, 0}};
        for (int[] row : bad) {
            check.due("grit(" + row[0] + ", " + row[1] + ")", x.grit(row[0], row[1]), MirrorTrue.BAD);
        }
        check.due("none", x.count(5), 0);
        for (int k = 0; k < 6; k++) {
            check.due("grit " + k, x.grit(k % 2 == 0 ? 1 : 100, k % 2 == 0 ? 0 : 200), k);
        }
        check.due("FULL", x.grit(1, 1), MirrorTrue.FULL);
        check.due("BAD before FULL", x.grit(0, 1), MirrorTrue.BAD);
        check.due("six", x.count(5), 6);
    }

    private static void slack() {
        MirrorTrue x = new MirrorTrue();
        check.due("slack(100)", x.slack(100), 0);
        check.due("slack(101)", x.slack(101), MirrorTrue.BAD);
        check.due("slack(-1)", x.slack(-1), MirrorTrue.BAD);
        check.due("slack(3)", x.slack(3), 100);
        x.grit(10, 0);
        wetsAre(x, "3 over", 27, 3, 3);
        wetsAre(x, "4 over", 26, MirrorTrue.NONE, MirrorTrue.NONE);
        x.slack(4);
        wetsAre(x, "4 over, slack 4", 26, 3, 3);
    }

    private static void wetsOfOne() {
        MirrorTrue x = new MirrorTrue();
        check.due("no grit", x.wets(1, -1), MirrorTrue.NONE);
        check.due("no grit 0", x.wets(1, 0), MirrorTrue.BAD);
        x.grit(70, 200);
        wetsAre(x, "one", 70, 1, 1);
        wetsAre(x, "pits of the only one do not count", 1400, 20, 20);
        wetsAre(x, "not to be met", 71, MirrorTrue.NONE, MirrorTrue.NONE);
        x.slack(100);
        wetsAre(x, "as deep as can be", 2000, 29, 29);
        MirrorTrue y = new MirrorTrue();
        y.grit(2, 0);
        wetsAre(y, "thirty", 60, 30, 30);
        wetsAre(y, "31 are too many", 62, MirrorTrue.NONE, MirrorTrue.NONE);
        int[][] bad = {{0, -1}, {2001, -1}, {-5, 0}, {60, 1}, {60, -2}, {60, Integer.MAX_VALUE}};
        for (int[] row : bad) {
            check.due("wets(" + row[0] + ", " + row[1] + ")", y.wets(row[0], row[1]), MirrorTrue.BAD);
        }
    }

    private static void wetsOfTwo() {
        MirrorTrue x = new MirrorTrue();
        x.grit(10, 4);
        x.grit(3, 1);
        // grit 1 must take 12 at least behind grit 0: four wets
        wetsAre(x, "just 3 times the pits", 22, 5, 1, 4);
        wetsAre(x, "less would be 3 times 3", 19, MirrorTrue.NONE, MirrorTrue.NONE, MirrorTrue.NONE);
        wetsAre(x, "the last alone", 9, 3, 0, 3);
        wetsAre(x, "the first alone does not do", 10, MirrorTrue.NONE, MirrorTrue.NONE, MirrorTrue.NONE);
        wetsAre(x, "the fewest", 42, 7, 3, 4);
    }

    private static void wetsSkipGrits() {
        MirrorTrue x = new MirrorTrue();
        x.grit(10, 2);
        x.grit(5, 100);
        x.grit(1, 0);
        // grit 1 would ask 300 of grit 2; grit 0 asks 6
        wetsAre(x, "the middle one left out", 56, 11, 5, 0, 6);
        // 3 of grit 0 would leave 5 for grit 2, which must take 6
        wetsAre(x, "never the middle one", 35, 17, 2, 0, 15);
    }

    private static void wetsOfSix() {
        MirrorTrue x = new MirrorTrue();
        for (int takes : new int[] {100, 50, 20, 10, 5, 1}) {
            x.grit(takes, 1);
        }
        // five of the last leave 1995: 1900, 50, 40 and 5
        wetsAre(x, "all but one", 2000, 28, 19, 1, 2, 0, 1, 5);
    }

    private static void wetsTies() {
        MirrorTrue x = new MirrorTrue();
        x.grit(5, 0);
        x.grit(5, 0);
        x.grit(5, 0);
        wetsAre(x, "more of grit 0", 50, 10, 9, 0, 1);
        wetsAre(x, "more of grit 0, then of 1", 200, 40, 30, 9, 1);
        x.slack(7);
        x.grit(1, 0);
        // three fives and a one take 16, within 7 of 10 to 16: two fives and one take 11
        wetsAre(x, "within slack", 10, 3, 2, 0, 0, 1);
    }
}
