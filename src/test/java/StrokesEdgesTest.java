/** The edges of promises 14 to 21: pull, rest, stroke, undo, replay, plan, right, work. */
public final class StrokesEdgesTest {
    private static final int BAD = MirrorTrue.BAD;
    private static final int NO = MirrorTrue.NO;
    private static final int FULL = MirrorTrue.FULL;
    private static final int NONE = MirrorTrue.NONE;
    private static final int BAD_HEIGHT = -1000000;
    private static final int NO_HEIGHT = -1000002;
    private static final int FULL_HEIGHT = -1000003;
    private static final Check check = new Check("StrokesEdgesTest");
    private static final Edges edges = new Edges(check);

    public static void main(String[] args) {
        pullRanges();
        restRange();
        restEdges();
        strokeRanges();
        strokeWhereThereIsOne();
        strokeDownToTheLeast();
        strokeNoAtEachNeighbour();
        strokeNoBehindTheRim();
        strokeFull();
        strokeFirstOfSeveral();
        undoNone();
        undoDown();
        undoMakesRoom();
        undoOfAnotherPull();
        replayRanges();
        replayEdges();
        replayByPullsNow();
        replayOfToldHeights();
        planRanges();
        planMinutes();
        planHeights();
        planAtTheRim();
        planLeastTogether();
        planOfSeveral();
        planFollows();
        rightRange();
        rightFromZoneZero();
        rightByAllMinutes();
        rightEdges();
        workRange();
        workRefused();
        workRoom();
        workOfNothing();
        workZoneByZone();
        workOnEachDisc();
        check.end();
    }

    // ---- 14, 15: pull, rest

    private static void pullRanges() {
        edges.range("P14 TOOLS 0 to 2", 0, 3, 2, 7, (x, v) -> x.pull(v, 0, 9), BAD);
        edges.range("P14 d -2 to 2", -2, 1, 2, 1, (x, v) -> x.pull(0, v, 9), BAD);
        edges.range("P14 PULLS 0 to 50", 0, 3, 50, 3, (x, v) -> x.pull(0, 0, v), BAD);
        MirrorTrue x = Told.disc(5000, 5000, 5000, 5000, 5000);
        for (int d = -2; d <= 2; d++) {
            check.due("P14 the greatest PULL is taken", x.pull(1, d, 50), 0);
            check.due("P14 what it was", x.pull(1, d, 50), 50);
        }
        check.due("P14 the greatest PULL pulls", x.stroke(1, 2, 20), 4000);
        check.due("P14 as far as 2", x.at(0), 4000);
        check.due("P14 as far as 2", x.at(4), 4000);
        check.due("P14 no other TOOL", x.stroke(0, 2, 20), 4000);
    }

    private static void restRange() {
        edges.range("P15 REST 0 to 10000", 0, 25, 10000, 25, (x, v) -> x.rest(v), BAD);
    }

    private static void restEdges() {
        MirrorTrue x = Told.disc(10, 0, 0, 0);
        check.due("P15 HEIGHT is REST", x.right(0), 4);
        x.rest(9);
        check.due("P15 HEIGHT is above REST", x.right(0), 0);
        x.rest(0);
        x.height(0, 0);
        check.due("P15 REST 0, HEIGHTS 0", x.right(0), 4);
        x.height(0, 1);
        check.due("P15 REST 0, HEIGHT 1", x.right(0), 0);
        x.rest(10000);
        x.height(0, 10000);
        check.due("P15 the greatest REST", x.plan(0, -1), 0);
        x.height(0, 10001);
        check.due("P15 above the greatest REST", x.plan(0, -1), NONE);
    }

    // ---- 16: stroke

    private static void strokeRanges() {
        edges.range("P16 TOOLS 0 to 2", 0, 28, 2, 24, (x, v) -> x.stroke(v, 0, 1), BAD_HEIGHT);
        edges.range("P16 ZONES 0 to n - 1", 0, 24, 4, 32, (x, v) -> x.stroke(2, v, 1), BAD_HEIGHT);
        edges.range("P16 minutes 1 to 20", 1, 24, 20, -109, (x, v) -> x.stroke(2, 0, v), BAD_HEIGHT);
        edges.refuses("P16 minutes -1", x -> x.stroke(2, 0, -1), BAD_HEIGHT);
    }

    private static void strokeWhereThereIsOne() {
        int[][] left = {{-3, -4, -5, 0}, {-2, -3, -4, -5}, {-1, -2, -3, -4}, {0, -1, -2, -3}};
        for (int zone = 0; zone < 4; zone++) {
            MirrorTrue x = Told.disc(0, 0, 0, 0);
            Told.pulls(x, 0, 1, 2, 3, 4, 5);
            check.due("P16 HEIGHT of the ZONE then", x.stroke(0, zone, 1), -3);
            for (int z = 0; z < 4; z++) {
                check.due("P16 PULL d off ZONE z + d, where there is one", x.at(z), left[zone][z]);
            }
        }
        MirrorTrue x = new MirrorTrue();
        x.disc(16);
        Told.pulls(x, 0, 50, 50, 50, 50, 50);
        x.stroke(0, 15, 20);
        x.disc(16);
        check.due("P16 none is worn behind the rim", x.at(15), 0);
    }

    private static void strokeDownToTheLeast() {
        edges.refuses("P16 NO: a HEIGHT would be -100001", Told::deep, x -> x.stroke(0, 1, 6), NO_HEIGHT);
        MirrorTrue x = Told.disc(-99980, 0, 0, 0);
        x.pull(0, 0, 1);
        check.due("P16 a HEIGHT may be -100000", x.stroke(0, 0, 20), -100000);
        check.due("P16 NO: 1 lower", x.stroke(0, 0, 1), NO_HEIGHT);
        check.due("P16 which is no STROKE", x.count(3), 1);
        check.due("P16 a TOOL that takes nothing there", x.stroke(1, 0, 20), -100000);
        x.pull(0, 0, 50);
        x.height(0, 100000);
        check.due("P16 as much as can be", x.stroke(0, 0, 20), 99000);
    }

    private static void strokeNoAtEachNeighbour() {
        for (int d = -2; d <= 2; d++) {
            int zone = 2 + d;
            Edges.Setup before = x -> {
                Told.all(x);
                Told.pulls(x, 2, 3, 3, 3, 3, 3);
                x.height(zone, -99998);
            };
            edges.refuses("P16 NO by ZONE " + zone, before, x -> x.stroke(2, 2, 1), NO_HEIGHT);
            MirrorTrue x = new MirrorTrue();
            before.tell(x);
            x.pull(2, d, 2);
            x.stroke(2, 2, 1);
            check.due("P16 not lower than the least", x.at(zone), -100000);
        }
    }

    private static void strokeNoBehindTheRim() {
        MirrorTrue x = new MirrorTrue();
        x.disc(16);
        for (int zone = 8; zone < 16; zone++) {
            x.height(zone, -100000);
        }
        x.disc(8);
        Told.pulls(x, 0, 50, 50, 0, 50, 50);
        x.height(0, 5);
        x.height(7, 6);
        check.due("P16 behind the rim nothing sinks", x.stroke(0, 7, 20), 6);
        check.due("P16 ahead of the middle nothing sinks", x.stroke(0, 0, 20), 5);
    }

    private static void strokeFull() {
        MirrorTrue x = Told.disc(0, 0, 0, 0);
        x.pull(0, 0, 1);
        for (int k = 1; k <= 60; k++) {
            check.due("P16 60 at most: STROKE " + k, x.stroke(0, 3, 1), -k);
        }
        check.due("P16 FULL: the 61st", x.stroke(0, 3, 1), FULL_HEIGHT);
        check.due("P16 60 stay", x.count(3), 60);
        edges.refuses("P16 FULL", Told::full, y -> y.stroke(2, 0, 1), FULL_HEIGHT);
        Edges.Setup fullAndPullsNothing = y -> {
            Told.full(y);
            y.pull(2, 0, 0);
        };
        edges.refuses("P16 FULL, though it takes nothing", fullAndPullsNothing, y -> y.stroke(2, 0, 1),
                FULL_HEIGHT);
    }

    private static void strokeFirstOfSeveral() {
        Edges.Setup fullAndDeep = x -> {
            Told.all(x);
            x.height(0, -99990);
            for (int k = 0; k < 60; k++) {
                x.stroke(1, 3, 1);
            }
        };
        edges.refuses("P16 NO, then FULL", fullAndDeep, x -> x.stroke(2, 0, 2), NO_HEIGHT);
        edges.refuses("P16 FULL, if not NO", fullAndDeep, x -> x.stroke(2, 0, 1), FULL_HEIGHT);
        edges.refuses("P16 BAD, then NO", Told::deep, x -> x.stroke(2, 0, 21), BAD_HEIGHT);
        edges.refuses("P16 BAD, then NO and FULL", fullAndDeep, x -> x.stroke(3, 0, 20), BAD_HEIGHT);
        edges.refuses("P16 BAD, then FULL", Told::full, x -> x.stroke(2, 5, 1), BAD_HEIGHT);
    }

    // ---- 17: undo

    private static void undoNone() {
        edges.refuses("P17 NO: no STROKES", Told::deep, x -> x.undo(), NO);
        MirrorTrue x = new MirrorTrue();
        check.due("P17 NO on a new object", x.undo(), NO);
        x.stroke(0, 0, 1);
        check.due("P17 the only one", x.undo(), 0);
        check.due("P17 NO: none is left", x.undo(), NO);
        x.stroke(0, 0, 1);
        x.disc(8);
        check.due("P17 NO: they went with the DISC", x.undo(), NO);
        x.stroke(0, 0, 1);
        x.height(0, 0);
        check.due("P17 NO: they went with the HEIGHTS", x.undo(), NO);
    }

    private static void undoDown() {
        MirrorTrue x = new MirrorTrue();
        Told.full(x);
        for (int left = 59; left >= 3; left--) {
            check.due("P17 how many are left", x.undo(), left);
        }
        MirrorTrue y = new MirrorTrue();
        Told.all(y);
        for (int zone = 0; zone < 5; zone++) {
            check.due("P17 57 UNDONE: as behind the first 3", x.at(zone), y.at(zone));
        }
        check.due("P17 its minutes go", x.count(4), 6);
        for (int left = 2; left >= 0; left--) {
            check.due("P17 how many are left", x.undo(), left);
        }
        int[] heights = {40, 55, 60, 52, 47};
        for (int zone = 0; zone < 5; zone++) {
            check.due("P17 all UNDONE: as told", x.at(zone), heights[zone]);
        }
    }

    private static void undoMakesRoom() {
        MirrorTrue x = new MirrorTrue();
        Told.full(x);
        int height = x.at(0);
        check.due("P17 FULL", x.stroke(2, 0, 1), FULL_HEIGHT);
        check.due("P17 room for one", x.undo(), 59);
        check.due("P17 one more", x.stroke(2, 0, 1), height - 7);
        check.due("P17 FULL again", x.stroke(2, 0, 1), FULL_HEIGHT);
    }

    private static void undoOfAnotherPull() {
        MirrorTrue x = Told.disc(100, 100, 100, 100);
        x.pull(0, 0, 9);
        x.stroke(0, 1, 2);
        x.pull(0, 0, 1);
        check.due("P17 UNDONE, though PULL is another", x.undo(), 0);
        check.due("P17 as it was before", x.at(1), 100);
        MirrorTrue y = Told.disc(-99999, 0, 0, 0);
        y.stroke(0, 0, 20);
        y.pull(0, 0, 50);
        check.due("P17 what took nothing gives nothing", y.undo(), 0);
        check.due("P17 as it was before", y.at(0), -99999);
    }

    // ---- 18: replay

    private static void replayRanges() {
        edges.range("P18 ZONES 0 to n - 1", 0, 31, 4, 39, (x, v) -> x.replay(v, 3), BAD_HEIGHT);
        edges.range("P18 k 0 to how many", 0, 40, 3, 31, (x, v) -> x.replay(0, v), BAD_HEIGHT);
        edges.asks("P18 REPLAYED only", x -> x.replay(2, 2), 54);
        edges.refuses("P18 neither", x -> x.replay(5, 4), BAD_HEIGHT);
    }

    private static void replayEdges() {
        MirrorTrue x = Told.disc(0, 0, 0, 0);
        check.due("P18 the first 0 of none", x.replay(3, 0), 0);
        check.due("P18 the first 1 of none", x.replay(3, 1), BAD_HEIGHT);
        x.pull(0, 0, 1);
        for (int k = 1; k <= 60; k++) {
            x.stroke(0, 3, 1);
            check.due("P18 all of " + k, x.replay(3, k), -k);
            check.due("P18 one more than " + k, x.replay(3, k + 1), BAD_HEIGHT);
        }
        check.due("P18 the first 0 of 60", x.replay(3, 0), 0);
        check.due("P18 the first 1 of 60", x.replay(3, 1), -1);
        x.undo();
        check.due("P18 what is UNDONE is none of them", x.replay(3, 60), BAD_HEIGHT);
        check.due("P18 the others are", x.replay(3, 59), -59);
    }

    private static void replayByPullsNow() {
        MirrorTrue x = Told.disc(-99000, 0, 0, 0, 0);
        Told.pulls(x, 1, 1, 2, 3, 4, 5);
        x.stroke(1, 2, 1);
        x.stroke(1, 0, 20);
        Told.pulls(x, 1, 50, 0, 0, 0, 7);
        check.due("P18 by PULLS as they are now", x.replay(0, 1), -99050);
        check.due("P18 by PULLS as they are now", x.replay(4, 1), -7);
        check.due("P18 by PULLS as they are now", x.replay(2, 2), -140);
        check.due("P18 nothing of it stands", x.at(0), -99061);
        Told.pulls(x, 1, 0, 0, 50, 0, 0);
        check.due("P18 even below -100000", x.replay(0, 2), -100000);
        Told.pulls(x, 1, 1, 0, 50, 0, 0);
        check.due("P18 even below -100000", x.replay(0, 2), -100001);
    }

    private static void replayOfToldHeights() {
        MirrorTrue x = Told.disc(30, 30, 30, 30);
        x.pull(0, 0, 5);
        x.stroke(0, 0, 1);
        check.due("P18 as told", x.replay(0, 0), 30);
        x.height(3, 1);
        check.due("P18 told last: by height(), of another ZONE", x.replay(0, 0), 25);
        check.due("P18 told last: by height()", x.replay(3, 0), 1);
        x.stroke(0, 3, 1);
        x.disc(4);
        check.due("P18 told last: by disc()", x.replay(3, 0), 0);
        check.due("P18 no BAD height() tells", x.height(0, 100001), BAD_HEIGHT);
        check.due("P18 as it was", x.replay(0, 0), 0);
    }

    // ---- 19: plan

    private static void planRanges() {
        edges.range("P19 TOOLS 0 to 2", 0, 14, 2, 15, (x, v) -> x.plan(v, -1), BAD);
        edges.range("P19 ZONES -1 to n - 1", -1, 15, 4, 2, (x, v) -> x.plan(2, v), BAD);
        edges.asks("P19 NONE together", x -> x.plan(1, -1), NONE);
        edges.asks("P19 NONE at a ZONE", x -> x.plan(1, 4), NONE);
        edges.refuses("P19 BAD, not NONE", x -> x.plan(1, 5), BAD);
        edges.refuses("P19 BAD, not NONE", x -> x.plan(1, -2), BAD);
        edges.asks("P19 THE PLAN is not DONE", x -> x.plan(2, -1), 15);
    }

    private static void planMinutes() {
        MirrorTrue x = Told.disc(0, 0, 0, 60);
        x.pull(0, 0, 10);
        check.due("P19 5 minutes at a ZONE", x.plan(0, -1), 5);
        check.due("P19 5 minutes at a ZONE", x.plan(0, 3), 5);
        check.due("P19 0 minutes at a ZONE", x.plan(0, 2), 0);
        x.height(3, 61);
        check.due("P19 no 6 minutes", x.plan(0, -1), NONE);
        MirrorTrue y = new MirrorTrue();
        y.disc(16);
        y.pull(2, 0, 50);
        for (int zone = 0; zone < 16; zone++) {
            y.height(zone, 260);
        }
        check.due("P19 5 minutes at each ZONE", y.plan(2, -1), 80);
        check.due("P19 5 at the first", y.plan(2, 0), 5);
        check.due("P19 5 at the last", y.plan(2, 15), 5);
        y.height(15, 261);
        check.due("P19 no more", y.plan(2, -1), NONE);
        check.due("P19 RIGHT then", y.right(2), 15);
    }

    private static void planHeights() {
        MirrorTrue x = Told.disc(0, 0, 14, 0);
        x.rest(0);
        x.pull(0, 0, 7);
        check.due("P19 HEIGHT comes to be 0", x.plan(0, -1), 2);
        x.height(2, 13);
        check.due("P19 neither below 0 nor above REST", x.plan(0, -1), NONE);
        x.rest(6);
        check.due("P19 HEIGHT comes to be REST", x.plan(0, -1), 1);
        x.rest(5);
        check.due("P19 REST is passed, 0 too", x.plan(0, -1), NONE);
        x.rest(10000);
        x.height(2, -1);
        check.due("P19 HEIGHT below 0: a STROKE only takes off", x.plan(0, -1), NONE);
        x.height(2, 100000);
        check.due("P19 the greatest HEIGHT", x.plan(0, -1), NONE);
        x.height(2, -100000);
        check.due("P19 the least HEIGHT", x.plan(0, -1), NONE);
        check.due("P19 RIGHT then", x.right(0), 2);
    }

    private static void planAtTheRim() {
        MirrorTrue x = Told.disc(0, 0, 0, 11);
        Told.pulls(x, 0, 0, 0, 1, 50, 50);
        check.due("P19 what is pulled behind the rim does not count", x.plan(0, 3), 1);
        MirrorTrue y = Told.disc(11, 0, 0, 0);
        Told.pulls(y, 0, 50, 50, 1, 0, 0);
        check.due("P19 nor what is pulled ahead of the middle", y.plan(0, 0), 1);
        for (int d = -2; d <= 2; d++) {
            MirrorTrue z = Told.disc(0, 0, 11, 0, 0);
            z.pull(1, d, 1);
            check.due("P19 by a PULL at " + d, z.plan(1, -1), 1);
            check.due("P19 from ZONE " + (2 - d), z.plan(1, 2 - d), 1);
        }
    }

    private static void planLeastTogether() {
        MirrorTrue x = Told.disc(12, 12, 12, 12);
        Told.pulls(x, 0, 0, 2, 2, 2, 0);
        // a minute takes 2 off a ZONE and its neighbours: each ZONE must be met once
        check.due("P19 of least minutes", x.plan(0, -1), 2);
        check.due("P19 ZONE 0: less", x.plan(0, 0), 0);
        check.due("P19 ZONE 1: it alone meets ZONE 0 then", x.plan(0, 1), 1);
        check.due("P19 ZONE 2: less", x.plan(0, 2), 0);
        check.due("P19 ZONE 3: the rest", x.plan(0, 3), 1);
        Told.pulls(x, 0, 0, 2, 50, 2, 0);
        x.rest(11);
        // a minute at a ZONE takes it below 0: none is worn by itself
        check.due("P19 NONE: each minute takes too much", x.plan(0, -1), NONE);
    }

    private static void planOfSeveral() {
        MirrorTrue x = Told.disc(13, 13, 13, 13);
        Told.pulls(x, 0, 1, 1, 1, 1, 1);
        // three minutes at 1 or 2 meet all
        check.due("P19 together", x.plan(0, -1), 3);
        int[] minutes = {0, 0, 3, 0};
        for (int zone = 0; zone < 4; zone++) {
            check.due("P19 whose minutes are less, from ZONE 0 on: " + zone, x.plan(0, zone), minutes[zone]);
        }
        MirrorTrue y = Told.disc(17, 17, 17, 17);
        Told.pulls(y, 0, 1, 1, 1, 1, 1);
        int[] more = {0, 2, 5, 0};
        check.due("P19 together", y.plan(0, -1), 7);
        for (int zone = 0; zone < 4; zone++) {
            check.due("P19 5 at the later, 2 at the earlier: " + zone, y.plan(0, zone), more[zone]);
        }
    }

    private static void planFollows() {
        MirrorTrue x = Told.disc(20, 0, 0, 0);
        x.pull(0, 0, 5);
        check.due("P19 at first", x.plan(0, -1), 2);
        x.pull(0, 0, 10);
        check.due("P19 by another PULL", x.plan(0, -1), 1);
        x.rest(9);
        check.due("P19 by another REST", x.plan(0, -1), 2);
        x.height(0, 30);
        check.due("P19 by another HEIGHT", x.plan(0, -1), 3);
        x.stroke(0, 0, 1);
        check.due("P19 behind a STROKE", x.plan(0, -1), 2);
        x.undo();
        check.due("P19 behind one that is UNDONE", x.plan(0, -1), 3);
        x.stroke(0, 0, 1);
        check.due("P19 behind a STROKE again", x.plan(0, -1), 2);
        x.pull(0, 0, 20);
        x.undo();
        check.due("P19 behind one that is UNDONE, by another PULL", x.plan(0, -1), NONE);
        x.pull(0, 0, 5);
        x.stroke(0, 0, 1);
        check.due("P19 behind a STROKE by another PULL", x.plan(0, -1), 4);
        x.pull(0, 0, 10);
        x.work(0);
        check.due("P19 behind the PLAN itself", x.plan(0, -1), 0);
        x.disc(16);
        check.due("P19 on another DISC", x.plan(0, 15), 0);
    }

    // ---- 20: right

    private static void rightRange() {
        edges.range("P20 TOOLS 0 to 2", 0, 5, 2, 5, (x, v) -> x.right(v), BAD);
        edges.asks("P20 nothing is DONE", x -> x.right(1), 1);
    }

    private static void rightFromZoneZero() {
        MirrorTrue x = Told.disc(-1, 0, 0, 0);
        check.due("P20 ZONE 0 is not right, all others are", x.right(0), 0);
        x.height(0, 0);
        x.height(2, -1);
        check.due("P20 up to the first that is not", x.right(0), 2);
        x.height(2, 0);
        x.height(3, -1);
        check.due("P20 all but the last", x.right(0), 3);
        x.height(3, 0);
        check.due("P20 n, if there is a PLAN", x.right(0), 4);
    }

    private static void rightByAllMinutes() {
        MirrorTrue x = Told.disc(15, 0, 3, 0);
        x.pull(0, -2, 5);
        // only ZONE 2 wears ZONE 0
        check.due("P20 by minutes at a later ZONE", x.right(0), 4);
        x.pull(0, 1, 50);
        check.due("P20 whatever becomes of the others", x.right(0), 3);
        x.pull(0, 0, 4);
        check.due("P20 but not of those that count", x.right(0), 2);
        check.due("P20 there is no PLAN", x.plan(0, -1), NONE);
    }

    private static void rightEdges() {
        MirrorTrue x = Told.disc(60, 0, 0, 0);
        x.pull(0, 0, 10);
        check.due("P20 5 minutes do", x.right(0), 4);
        x.height(0, 61);
        check.due("P20 6 are none", x.right(0), 0);
        MirrorTrue y = new MirrorTrue();
        y.disc(16);
        check.due("P20 16 ZONES", y.right(2), 16);
        y.height(15, 11);
        check.due("P20 15 of 16", y.right(2), 15);
        y.height(14, 11);
        check.due("P20 14 of 16", y.right(2), 14);
        y.height(13, 11);
        check.due("P20 13 of 16", y.right(2), 13);
        y.height(1, 100000);
        check.due("P20 1 of 16", y.right(2), 1);
        y.height(0, 100000);
        check.due("P20 none of 16", y.right(2), 0);
    }

    // ---- 21: work

    private static void workRange() {
        edges.range("P21 TOOLS 0 to 2", 0, 4, 2, 5, (x, v) -> x.work(v), BAD);
    }

    private static void workRefused() {
        edges.refuses("P21 NO: there is none", x -> x.work(1), NO);
        edges.refuses("P21 NO, then FULL", Told::full, x -> x.work(1), NO);
        edges.refuses("P21 BAD, then NO and FULL", Told::full, x -> x.work(3), BAD);
        Edges.Setup noRoomForFive = x -> {
            Told.all(x);
            Told.pulls(x, 1, 0, 0, 0, 0, 0);
            for (int k = 3; k < 56; k++) {
                x.stroke(1, 4, 1);
            }
        };
        edges.refuses("P21 FULL: room for 4 of 5", noRoomForFive, x -> x.work(2), FULL);
    }

    private static void workRoom() {
        for (int done = 55; done <= 60; done++) {
            MirrorTrue x = Told.disc(20, 20, 20, 20, 20);
            x.pull(0, 0, 10);
            for (int k = 0; k < done; k++) {
                x.stroke(1, 0, 1);
            }
            check.due("P21 5 STROKES behind " + done, x.work(0), done == 55 ? 5 : FULL);
            check.due("P21 how many then", x.count(3), done == 55 ? 60 : done);
            check.due("P21 the first ZONE then", x.at(0), done == 55 ? 10 : 20);
        }
    }

    private static void workOfNothing() {
        MirrorTrue x = Told.disc(0, 1, 2, 10);
        check.due("P21 no STROKES for 0 minutes", x.work(0), 0);
        check.due("P21 how many then", x.count(3), 0);
        for (int k = 0; k < 60; k++) {
            x.stroke(0, 0, 1);
        }
        check.due("P21 none are not too many", x.work(0), 0);
        check.due("P21 how many then", x.count(3), 60);
    }

    private static void workZoneByZone() {
        MirrorTrue x = Told.disc(60, 0, 30, 60);
        x.pull(0, 0, 10);
        check.due("P21 how many", x.work(0), 3);
        check.due("P21 ZONE 0 first", x.replay(0, 1), 10);
        check.due("P21 then ZONE 2, none at ZONE 1", x.replay(2, 2), 10);
        check.due("P21 not ZONE 3", x.replay(3, 2), 60);
        check.due("P21 ZONE 3 at last", x.replay(3, 3), 10);
        check.due("P21 minutes", x.count(4), 12);
        check.due("P21 they are STROKES to be UNDONE", x.undo(), 2);
        check.due("P21 the last one is", x.at(3), 60);
        check.due("P21 the others are not", x.at(0), 10);
    }

    private static void workOnEachDisc() {
        MirrorTrue x = new MirrorTrue();
        x.pull(0, 0, 10);
        for (int n = 16; n >= 4; n--) {
            x.disc(n);
            for (int zone = 0; zone < n; zone++) {
                x.height(zone, 20);
            }
            check.due("P21 a STROKE at each of " + n + " ZONES", x.work(0), n);
            check.due("P21 how many then", x.count(3), n);
            check.due("P21 the last ZONE then", x.at(n - 1), 10);
        }
    }
}
