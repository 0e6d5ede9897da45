/** The edges of promises 28 to 30: grit, slack, wets. */
public final class GritsEdgesTest {
    private static final int BAD = MirrorTrue.BAD;
    private static final int FULL = MirrorTrue.FULL;
    private static final int NONE = MirrorTrue.NONE;
    private static final Check check = new Check("GritsEdgesTest");
    private static final Edges edges = new Edges(check);

    public static void main(String[] args) {
        gritRanges();
        gritFull();
        gritExtremes();
        slackRange();
        slackEdges();
        wetsRanges();
        wetsNoGrit();
        wetsThirty();
        wetsOfLastGrit();
        wetsJustThePits();
        wetsPitsThatDoNotCount();
        wetsPitsOfTheOneAhead();
        wetsGreatestDepth();
        wetsLeastDepth();
        wetsFewest();
        wetsOfSeveral();
        wetsFollow();
        check.end();
    }

    private static MirrorTrue grits(int slack, int... takesAndPits) {
        MirrorTrue x = new MirrorTrue();
        x.slack(slack);
        for (int k = 0; k < takesAndPits.length; k += 2) {
            x.grit(takesAndPits[k], takesAndPits[k + 1]);
        }
        return x;
    }

    private static void wetsAre(MirrorTrue x, String sentence, int depth, int... wets) {
        int together = 0;
        for (int grit = 0; grit < wets.length; grit++) {
            check.due(sentence + ": GRIT " + grit, x.wets(depth, grit), wets[grit]);
            together += wets[grit];
        }
        check.due(sentence + ": together", x.wets(depth, -1), together);
    }

    private static void noWets(MirrorTrue x, String sentence, int depth) {
        for (int i = -1; i < x.count(5); i++) {
            check.due(sentence + ": NONE, " + i, x.wets(depth, i), NONE);
        }
    }

    // ---- 28: grit

    private static void gritRanges() {
        edges.range("P28 takes 1 to 100", 1, 3, 100, 3, (x, v) -> x.grit(v, 0), BAD);
        edges.range("P28 PITS 0 to 200", 0, 3, 200, 3, (x, v) -> x.grit(1, v), BAD);
        edges.refuses("P28 takes -1", x -> x.grit(-1, 0), BAD);
    }

    private static void gritFull() {
        MirrorTrue x = new MirrorTrue();
        for (int k = 0; k < 6; k++) {
            check.due("P28 its number", x.grit(1, 0), k);
        }
        check.due("P28 FULL: 6", x.grit(1, 0), FULL);
        check.due("P28 6 stay", x.count(5), 6);
        edges.refuses("P28 FULL", Told::full, y -> y.grit(50, 0), FULL);
        edges.refuses("P28 FULL, but for STROKES", Told::fullButForStrokes, y -> y.grit(50, 0), FULL);
        edges.refuses("P28 BAD takes, then FULL", Told::full, y -> y.grit(101, 0), BAD);
        edges.refuses("P28 BAD PITS, then FULL", Told::full, y -> y.grit(50, 201), BAD);
        x.disc(8);
        check.due("P28 no new DISC makes room", x.grit(1, 0), FULL);
    }

    private static void gritExtremes() {
        MirrorTrue x = grits(0, 100, 200, 100, 200);
        wetsAre(x, "P28 the greatest takes, the greatest PITS", 700, 1, 6);
        noWets(grits(0, 100, 200, 99, 200), "P28 594 are less than 3 times 200", 694);
        wetsAre(grits(0, 1, 0, 1, 0), "P28 the least takes, the least PITS", 2, 1, 1);
    }

    // ---- 29: slack

    private static void slackRange() {
        edges.range("P29 SLACK 0 to 100", 0, 4, 100, 4, (x, v) -> x.slack(v), BAD);
    }

    private static void slackEdges() {
        MirrorTrue x = grits(0, 100, 0);
        wetsAre(x, "P29 SLACK 0: just D", 100, 1);
        noWets(x, "P29 SLACK 0: less than D", 101);
        noWets(x, "P29 SLACK 0: more than D", 99);
        x.slack(1);
        wetsAre(x, "P29 SLACK 1: D and 1", 99, 1);
        noWets(x, "P29 SLACK 1: D and 2", 98);
        noWets(x, "P29 SLACK 1: less than D", 101);
        x.slack(99);
        wetsAre(x, "P29 SLACK 99", 1, 1);
        wetsAre(x, "P29 SLACK 99", 101, 2);
        x.slack(100);
        wetsAre(x, "P29 SLACK 100: the fewest", 100, 1);
        check.due("P29 what it was", x.slack(0), 100);
    }

    // ---- 30: wets

    private static void wetsRanges() {
        edges.range("P30 D 1 to 2000", 1, 1, 2000, NONE, (x, v) -> x.wets(v, -1), BAD);
        edges.range("P30 GRITS -1 to the last", -1, 10, 2, 5, (x, v) -> x.wets(77, v), BAD);
        edges.refuses("P30 BAD, not NONE", x -> x.wets(2000, 3), BAD);
        edges.refuses("P30 BAD D, no such GRIT", x -> x.wets(0, 3), BAD);
        edges.asks("P30 WETS are only asked", x -> x.wets(77, -1), 10);
        edges.asks("P30 NONE changes nothing", x -> x.wets(2000, -1), NONE);
    }

    private static void wetsNoGrit() {
        MirrorTrue x = new MirrorTrue();
        check.due("P30 NONE: there is no GRIT", x.wets(1, -1), NONE);
        check.due("P30 BAD: there is no GRIT 0", x.wets(1, 0), BAD);
        check.due("P30 BAD, not NONE: no D", x.wets(0, -1), BAD);
        x.slack(100);
        check.due("P30 NONE: there is no GRIT, for all SLACK", x.wets(1, -1), NONE);
        x.grit(1, 0);
        check.due("P30 BAD: there is no GRIT 1", x.wets(1, 1), BAD);
        check.due("P30 GRIT 0", x.wets(1, 0), 1);
    }

    private static void wetsThirty() {
        MirrorTrue x = grits(0, 3, 0);
        wetsAre(x, "P30 30 of a GRIT", 90, 30);
        noWets(x, "P30 31 of a GRIT", 93);
        x.slack(100);
        wetsAre(x, "P30 30 of a GRIT, with SLACK", 90, 30);
        noWets(x, "P30 31 of a GRIT, with SLACK", 91);
        MirrorTrue y = grits(0, 1, 0, 1, 0, 1, 0, 1, 0, 1, 0, 1, 0);
        wetsAre(y, "P30 30 of each of 6", 180, 30, 30, 30, 30, 30, 30);
        noWets(y, "P30 one more", 181);
        wetsAre(y, "P30 one less", 179, 30, 30, 30, 30, 30, 29);
    }

    private static void wetsOfLastGrit() {
        MirrorTrue x = grits(0, 100, 0, 1, 0);
        noWets(x, "P30 the last GRIT is used: not the first alone", 100);
        wetsAre(x, "P30 the last GRIT is used", 101, 1, 1);
        wetsAre(x, "P30 the last GRIT alone", 30, 0, 30);
        noWets(x, "P30 the last GRIT alone takes 30 at most", 31);
    }

    private static void wetsJustThePits() {
        MirrorTrue x = grits(0, 50, 5, 3, 0);
        wetsAre(x, "P30 just 3 times PITS", 65, 1, 5);
        noWets(x, "P30 less than 3 times PITS", 62);
        MirrorTrue y = grits(0, 50, 5, 7, 0);
        noWets(y, "P30 14 are less than 15", 64);
        wetsAre(y, "P30 21 are more", 71, 1, 3);
        MirrorTrue z = grits(0, 50, 0, 1, 0);
        wetsAre(z, "P30 no PITS: one wet does", 51, 1, 1);
    }

    private static void wetsPitsThatDoNotCount() {
        MirrorTrue x = grits(0, 10, 200, 2, 200);
        wetsAre(x, "P30 the first one used need clear nothing; the last one's PITS stay", 20, 0, 10);
        noWets(x, "P30 behind the first, 600 would be asked", 30 + 60);
        MirrorTrue y = grits(0, 40, 1, 30, 200, 3, 0);
        wetsAre(y, "P30 a GRIT that is not used leaves no PITS", 46, 1, 0, 2);
    }

    private static void wetsPitsOfTheOneAhead() {
        MirrorTrue x = grits(0, 20, 10, 10, 0, 1, 0);
        wetsAre(x, "P30 only the one ahead asks", 51, 1, 3, 1);
        MirrorTrue y = grits(0, 20, 10, 10, 2, 1, 0);
        // GRIT 1 asks 6 of GRIT 2, GRIT 0 asks 30 of whatever follows
        wetsAre(y, "P30 the one ahead that is used asks", 56, 1, 3, 6);
        wetsAre(y, "P30 over a GRIT that is not used", 50, 0, 4, 10);
        MirrorTrue z = grits(0, 20, 10, 100, 0, 1, 0);
        wetsAre(z, "P30 over a GRIT that is not used: 30 of it", 50, 1, 0, 30);
        noWets(z, "P30 29 are less than 3 times 10", 49);
        MirrorTrue w = grits(0, 100, 10, 2, 0, 1, 0);
        wetsAre(w, "P30 GRIT 1 clears 30", 131, 1, 15, 1);
        wetsAre(w, "P30 GRIT 2 clears 30", 130, 1, 0, 30);
        noWets(w, "P30 neither clears 30, though both together take 29", 129);
        // 5 of GRIT 1 and 1 of GRIT 2 would be as many wets, with more of GRIT 1
        wetsAre(grits(0, 20, 10, 5, 0, 5, 0), "P30 25 of GRIT 1 are less than 30", 50, 1, 0, 6);
    }

    private static void wetsGreatestDepth() {
        MirrorTrue x = grits(100, 70, 0);
        wetsAre(x, "P30 D and SLACK: 2100", 2000, 29);
        MirrorTrue y = grits(99, 100, 0, 100, 0);
        wetsAre(y, "P30 D 2000 itself", 2000, 19, 1);
        wetsAre(y, "P30 2000 for D 1901", 1901, 19, 1);
        MirrorTrue z = grits(100, 84, 0);
        wetsAre(z, "P30 2016 of 2000 to 2100", 2000, 24);
    }

    private static void wetsLeastDepth() {
        wetsAre(grits(0, 1, 0), "P30 D 1", 1, 1);
        noWets(grits(0, 2, 0), "P30 D 1 is passed", 1);
        wetsAre(grits(1, 2, 0), "P30 D 1 and SLACK 1", 1, 1);
        wetsAre(grits(100, 1, 0, 100, 0), "P30 the last, as far as SLACK", 1, 0, 1);
        wetsAre(grits(100, 1, 0, 100, 0), "P30 with one of the first", 2, 0, 1);
    }

    private static void wetsFewest() {
        MirrorTrue x = grits(0, 9, 0, 10, 0, 1, 0);
        // 18 less 1: 9 and 8 ones, or 10 and 7 ones
        wetsAre(x, "P30 the fewest, though less of GRIT 0", 17, 0, 1, 7);
        wetsAre(x, "P30 the fewest", 20, 1, 1, 1);
        x.slack(1);
        wetsAre(x, "P30 the fewest within SLACK: 19 are too many", 17, 0, 1, 7);
        x.slack(2);
        wetsAre(x, "P30 the fewest within SLACK: 19 are in it", 17, 2, 0, 1);
    }

    private static void wetsOfSeveral() {
        MirrorTrue x = grits(0, 4, 0, 4, 0, 4, 0, 4, 0);
        wetsAre(x, "P30 more of GRIT 0", 20, 4, 0, 0, 1);
        wetsAre(x, "P30 then of GRIT 1", 4 * 42, 30, 11, 0, 1);
        wetsAre(x, "P30 then of GRIT 2", 4 * 63, 30, 30, 2, 1);
        MirrorTrue y = grits(4, 5, 0, 6, 0, 7, 0);
        // three wets: 5 5 7 is 17, 5 6 7 is 18, ..
        wetsAre(y, "P30 more of GRIT 0, whatever they take within SLACK", 17, 2, 0, 1);
        wetsAre(y, "P30 then of GRIT 1", 18, 1, 1, 1);
        wetsAre(y, "P30 all of GRIT 2", 21, 0, 0, 3);
    }

    private static void wetsFollow() {
        MirrorTrue x = grits(0, 10, 2);
        wetsAre(x, "P30 one GRIT", 40, 4);
        x.grit(5, 3);
        wetsAre(x, "P30 by another GRIT", 40, 3, 2);
        x.grit(1, 0);
        wetsAre(x, "P30 by a third", 40, 3, 0, 10);
        x.slack(9);
        wetsAre(x, "P30 by SLACK", 40, 4, 0, 6);
        x.disc(4);
        wetsAre(x, "P30 DISC plays no part", 40, 4, 0, 6);
    }
}
