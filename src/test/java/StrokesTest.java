/** Promises 14 to 21: pulls, rest, strokes, undo, replay, plans, right, work. */
public final class StrokesTest {
    private static final Check check = new Check("StrokesTest");

    public static void main(String[] args) {
        pull();
        rest();
        stroke();
        strokeAtTheRim();
        strokeRefused();
        undo();
        replay();
        plan();
        planOfSeveral();
        right();
        work();
        workOfSmallerDisc();
        workRefused();
        check.end();
    }

    private static MirrorTrue discOf(int... heights) {
        MirrorTrue x = new MirrorTrue();
        x.disc(heights.length);
        for (int zone = 0; zone < heights.length; zone++) {
            x.height(zone, heights[zone]);
        }
        return x;
    }

    private static void pulls(MirrorTrue x, int tool, int... pulls) {
        for (int d = -2; d <= 2; d++) {
            x.pull(tool, d, pulls[d + 2]);
        }
    }

    private static void heightsAre(MirrorTrue x, String what, int... heights) {
        for (int zone = 0; zone < heights.length; zone++) {
            check.due(what + ", zone " + zone, x.at(zone), heights[zone]);
        }
    }

    private static void pull() {
        MirrorTrue x = new MirrorTrue();
        for (int d = -2; d <= 2; d++) {
            check.due("pull at " + d, x.pull(2, d, 50 + d - 2), 0);
        }
        for (int d = -2; d <= 2; d++) {
            check.due("was at " + d, x.pull(2, d, 0), 50 + d - 2);
        }
        int[][] bad = {{-1, 0, 0}, {3, 0, 0}, {0, -3, 0}, {0, 3, 0}, {0, 0, -1}, {0, 0, 51}};
        for (int[] row : bad) {
            check.due("pull(" + row[0] + ", " + row[1] + ", " + row[2] + ")",
                    x.pull(row[0], row[1], row[2]), MirrorTrue.BAD);
        }
    }

    private static void rest() {
        MirrorTrue x = discOf(0, 0, 0, 10000);
        check.due("above 10", x.right(0), 3);
        check.due("rest(10000)", x.rest(10000), 10);
        check.due("at rest", x.right(0), 4);
        check.due("rest(10001)", x.rest(10001), MirrorTrue.BAD);
        check.due("rest(-1)", x.rest(-1), MirrorTrue.BAD);
        check.due("rest(0)", x.rest(0), 10000);
        check.due("right", x.right(0), 3);
    }

    private static void stroke() {
        MirrorTrue x = discOf(100, 100, 100, 100, 100);
        pulls(x, 1, 1, 2, 3, 4, 5);
        check.due("stroke(1, 2, 2)", x.stroke(1, 2, 2), 94);
        heightsAre(x, "amid", 98, 96, 94, 92, 90);
        check.due("at the rim", x.stroke(1, 4, 1), 87);
        heightsAre(x, "the rim", 98, 96, 93, 90, 87);
        check.due("at the middle", x.stroke(1, 0, 20), 38);
        heightsAre(x, "the middle", 38, 16, -7, 90, 87);
        check.due("another tool pulls nothing", x.stroke(0, 0, 5), 38);
        check.due("strokes", x.count(3), 4);
        check.due("minutes", x.count(4), 28);
    }

    private static void strokeAtTheRim() {
        MirrorTrue x = new MirrorTrue();
        x.disc(16);
        pulls(x, 2, 1, 2, 3, 4, 5);
        check.due("the last zone there can be", x.stroke(2, 15, 3), -9);
        check.due("one ahead", x.at(14), -6);
        check.due("two ahead", x.at(13), -3);
        check.due("the rim", x.at(16), -1000000);
        for (int d = -2; d <= 2; d++) {
            MirrorTrue y = discOf(0, 0, 0, 0, 0);
            y.pull(0, d, 1);
            y.height(2 + d, -100000);
            check.due("would sink at " + d, y.stroke(0, 2, 1), -1000002);
            check.due("nothing done at " + d, y.count(3), 0);
        }
    }

    private static void strokeRefused() {
        MirrorTrue x = discOf(0, 0, -99999, 0);
        pulls(x, 0, 0, 0, 0, 1, 0);
        int[][] bad = {{-1, 0, 1}, {3, 0, 1}, {0, -1, 1}, {0, 4, 1}, {0, 0, 0}, {0, 0, 21}, {0, 0, -1}};
        for (int[] row : bad) {
            check.due("stroke(" + row[0] + ", " + row[1] + ", " + row[2] + ")",
                    x.stroke(row[0], row[1], row[2]), -1000000);
        }
        check.due("a neighbour would sink", x.stroke(0, 1, 2), -1000002);
        check.due("nothing changed", x.at(2), -99999);
        check.due("down to the least", x.stroke(0, 1, 1), 0);
        check.due("the least", x.at(2), -100000);
        check.due("further", x.stroke(0, 1, 1), -1000002);
        check.due("by a tool that pulls nothing", x.stroke(1, 1, 1), 0);
        for (int k = 2; k < 60; k++) {
            check.due("stroke " + k, x.stroke(1, 3, 1), 0);
        }
        check.due("full", x.stroke(1, 3, 1), -1000003);
        check.due("NO before FULL", x.stroke(0, 1, 1), -1000002);
        check.due("BAD before NO", x.stroke(0, 1, 21), -1000000);
        check.due("sixty", x.count(3), 60);
    }

    private static void undo() {
        MirrorTrue x = discOf(50, 50, 50, 50);
        check.due("none", x.undo(), MirrorTrue.NO);
        pulls(x, 0, 1, 2, 3, 4, 5);
        x.stroke(0, 0, 1);
        x.stroke(0, 3, 2);
        heightsAre(x, "done", 47, 44, 41, 44);
        pulls(x, 0, 9, 9, 9, 9, 9);
        check.due("undo", x.undo(), 1);
        heightsAre(x, "as before the second", 47, 46, 45, 50);
        check.due("minutes left", x.count(4), 1);
        check.due("undo", x.undo(), 0);
        heightsAre(x, "as told", 50, 50, 50, 50);
        check.due("none left", x.undo(), MirrorTrue.NO);
        x.disc(4);
        check.due("disc", x.undo(), MirrorTrue.NO);
    }

    private static void replay() {
        MirrorTrue x = discOf(50, 50, 50, 50, 50);
        pulls(x, 0, 0, 1, 3, 2, 0);
        pulls(x, 1, 5, 0, 0, 0, 0);
        x.stroke(0, 1, 2);
        x.stroke(1, 4, 1);
        x.stroke(0, 2, 1);
        for (int k = 0; k <= 3; k++) {
            check.due("zone 2 behind " + k, x.replay(2, k), new int[] {50, 46, 41, 38}[k]);
            check.due("zone 1 behind " + k, x.replay(1, k), new int[] {50, 44, 44, 43}[k]);
        }
        check.due("as it is", x.replay(2, 3), x.at(2));
        x.pull(0, 1, 50);
        check.due("by pulls as they are now", x.replay(2, 1), -50);
        check.due("the height stays", x.at(2), 38);
        check.due("k too many", x.replay(0, 4), -1000000);
        check.due("k below 0", x.replay(0, -1), -1000000);
        check.due("zone 5", x.replay(5, 0), -1000000);
        check.due("zone -1", x.replay(-1, 0), -1000000);
        x.undo();
        check.due("k undone", x.replay(0, 3), -1000000);
        x.height(0, 7);
        check.due("told anew", x.replay(0, 0), 7);
        check.due("the others as they were", x.replay(2, 0), 41);
        check.due("no strokes", x.replay(0, 1), -1000000);
        MirrorTrue low = discOf(-100000, 0, 0, 0);
        low.stroke(0, 0, 20);
        low.pull(0, 0, 50);
        check.due("replayed below the least", low.replay(0, 1), -101000);
    }

    private static void plan() {
        MirrorTrue x = discOf(0, 10, 0, 10);
        check.due("nothing to do", x.plan(0, -1), 0);
        check.due("no minutes", x.plan(0, 3), 0);
        x.height(1, 21);
        check.due("no pull, no plan", x.plan(0, -1), MirrorTrue.NONE);
        check.due("nor at a zone", x.plan(0, 1), MirrorTrue.NONE);
        x.pull(0, 0, 4);
        check.due("minutes", x.plan(0, -1), 3);
        check.due("at zone 1", x.plan(0, 1), 3);
        check.due("at zone 0", x.plan(0, 0), 0);
        check.due("another tool", x.plan(1, -1), MirrorTrue.NONE);
        x.height(1, 30);
        check.due("five minutes", x.plan(0, -1), 5);
        x.height(1, 31);
        check.due("six are too many", x.plan(0, -1), MirrorTrue.NONE);
        x.height(1, -1);
        check.due("below 0", x.plan(0, -1), MirrorTrue.NONE);
        check.due("plan(-1, 0)", x.plan(-1, 0), MirrorTrue.BAD);
        check.due("plan(3, 0)", x.plan(3, 0), MirrorTrue.BAD);
        check.due("plan(0, 4)", x.plan(0, 4), MirrorTrue.BAD);
        check.due("plan(0, -2)", x.plan(0, -2), MirrorTrue.BAD);
    }

    private static void planOfSeveral() {
        // zone 1 may be worn from zone 0, 1, 2 or 3: the later ones leave the first ones less
        MirrorTrue x = discOf(20, 30, 20, 20);
        x.rest(20);
        pulls(x, 0, 10, 10, 10, 0, 0);
        check.due("one minute", x.plan(0, -1), 1);
        check.due("zone 3", x.plan(0, 3), 1);
        for (int zone = 0; zone < 3; zone++) {
            check.due("zone " + zone, x.plan(0, zone), 0);
        }
        MirrorTrue y = discOf(4, 4, 4, 4, 4, 4, 4, 4, 4, 4, 4, 4, 4, 4, 4, 4);
        y.rest(3);
        pulls(y, 2, 1, 1, 1, 1, 1);
        check.due("16 zones", y.plan(2, -1), 4);
        // zone 0 may be reached from zone 2, then 7, 12 and one for zone 15: from zone 13, 14 or 15
        int[] minutes = {0, 0, 1, 0, 0, 0, 0, 1, 0, 0, 0, 0, 1, 0, 0, 1};
        for (int zone = 0; zone < 16; zone++) {
            check.due("zone " + zone, y.plan(2, zone), minutes[zone]);
        }
    }

    private static void right() {
        MirrorTrue x = discOf(0, 0, 15, 0);
        check.due("two", x.right(0), 2);
        x.pull(0, 1, 5);
        // zone 1 takes zone 2 right and leaves all others
        check.due("all", x.right(0), 4);
        x.pull(0, 0, 5);
        // now zone 1 would go below 0; zone 2 takes zone 3 below 0
        check.due("three", x.right(0), 3);
        x.height(0, -1);
        check.due("none", x.right(0), 0);
        x.height(0, 11);
        check.due("the first three, whatever the last", x.right(1), 0);
        x.pull(1, 1, 1);
        check.due("nothing reaches zone 0", x.right(1), 0);
        x.pull(1, -2, 1);
        // zone 2 worn by zone 1 once a minute at most five times: 15 - 5; then zone 3 by zone 2: below 0
        check.due("zone 0 from zone 2 brings zone 3 wrong", x.right(1), 3);
        check.due("right(-1)", x.right(-1), MirrorTrue.BAD);
        check.due("right(3)", x.right(3), MirrorTrue.BAD);
        check.due("nothing changed", x.at(0), 11);
    }

    private static void work() {
        MirrorTrue x = discOf(15, 0, 35, 10, 60);
        x.pull(0, 0, 10);
        check.due("work", x.work(0), 3);
        heightsAre(x, "worked", 5, 0, 5, 10, 10);
        check.due("strokes", x.count(3), 3);
        check.due("minutes", x.count(4), 9);
        check.due("zone by zone", x.replay(2, 1), 35);
        check.due("zone by zone", x.replay(2, 2), 5);
        check.due("nothing more to do", x.work(0), 0);
        check.due("undo", x.undo(), 2);
        check.due("the last zone", x.at(4), 60);
        check.due("plan is worked out anew", x.plan(0, -1), 5);
        check.due("work(-1)", x.work(-1), MirrorTrue.BAD);
        check.due("work(3)", x.work(3), MirrorTrue.BAD);
        check.due("no plan", x.work(1), MirrorTrue.NO);
    }

    private static void workOfSmallerDisc() {
        MirrorTrue x = new MirrorTrue();
        x.disc(6);
        x.pull(0, 0, 10);
        for (int zone = 0; zone < 6; zone++) {
            x.height(zone, 50);
        }
        check.due("six zones", x.plan(0, -1), 24);
        x.disc(4);
        x.height(3, 50);
        check.due("four zones", x.plan(0, -1), 4);
        check.due("one stroke", x.work(0), 1);
        check.due("done", x.count(3), 1);
    }

    private static void workRefused() {
        MirrorTrue x = discOf(20, 20, 20, 20);
        x.pull(0, 0, 10);
        for (int k = 0; k < 57; k++) {
            x.stroke(1, 0, 1);
        }
        check.due("no room for four", x.work(0), MirrorTrue.FULL);
        check.due("nothing done", x.at(0), 20);
        check.due("strokes", x.count(3), 57);
        x.undo();
        check.due("just room", x.work(0), 4);
        check.due("sixty", x.count(3), 60);
        check.due("none is needed, none too many", x.work(0), 0);
        x.rest(9);
        check.due("the plan of the rest", x.plan(0, -1), 4);
        check.due("full", x.work(0), MirrorTrue.FULL);
        x.pull(0, 0, 11);
        check.due("NO before FULL", x.work(0), MirrorTrue.NO);
    }
}
