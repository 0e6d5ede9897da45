/** Promises 1 to 6 and 31: a new object, the disc, its aim, heights, counts. */
public final class DiscTest {
    private static final long NO_DEPTH = -1000000000000000000L;
    private static final Check check = new Check("DiscTest");

    public static void main(String[] args) {
        newObject();
        disc();
        discLeavesTheRest();
        aim();
        depth();
        height();
        at();
        count();
        check.end();
    }

    private static void newObject() {
        MirrorTrue x = new MirrorTrue();
        int[] counts = {8, 0, 0, 0, 0, 0};
        for (int what = 0; what < 6; what++) {
            check.due("count(" + what + ")", x.count(what), counts[what]);
        }
        for (int zone = 0; zone < 8; zone++) {
            check.due("at", x.at(zone), 0);
        }
        check.due("depth above", x.depth(200, 0), 20);
        check.due("depth below", x.depth(200, 1), 1);
        check.due("lie", x.lie(2), 2);
        check.due("rest", x.rest(10), 10);
        check.due("slack", x.slack(0), 0);
        for (int shell = 0; shell <= 8; shell++) {
            check.due("warmth", x.warmth(shell), 0);
        }
        for (int tool = 0; tool < 3; tool++) {
            for (int d = -2; d <= 2; d++) {
                check.due("pull", x.pull(tool, d, 0), 0);
            }
        }
        for (int ring = 0; ring <= 6; ring++) {
            check.due("bend", x.bend(ring, 7, 0), 0);
        }
        check.due("undo", x.undo(), MirrorTrue.NO);
        check.due("wires", x.wires(3), 2000000);
        check.due("plan", x.plan(0, -1), 0);
        check.due("wets", x.wets(1, -1), MirrorTrue.NONE);
    }

    private static void disc() {
        MirrorTrue x = new MirrorTrue();
        check.due("disc(4)", x.disc(4), 4);
        check.due("count(0)", x.count(0), 4);
        check.due("at(3)", x.at(3), 0);
        check.due("at(4)", x.at(4), -1000000);
        check.due("disc(16)", x.disc(16), 16);
        check.due("at(15)", x.at(15), 0);
        x.height(1, 5);
        for (int n : new int[] {3, 17, 0, -1, Integer.MIN_VALUE, Integer.MAX_VALUE}) {
            check.due("disc(" + n + ")", x.disc(n), MirrorTrue.BAD);
        }
        check.due("count(0) behind BAD", x.count(0), 16);
        check.due("at(1) behind BAD", x.at(1), 5);
    }

    private static void discLeavesTheRest() {
        MirrorTrue x = new MirrorTrue();
        x.aim(300, 0, 1);
        x.height(2, 77);
        x.read(2, 3, 9);
        x.lie(7);
        x.wire(0, 1, 4);
        x.pull(2, -2, 8);
        x.rest(99);
        x.stroke(2, 4, 1);
        x.bend(3, 1, 50);
        x.bend(6, 1, 60);
        x.warm(4, 11);
        x.warm(8, 12);
        x.grit(3, 2);
        x.slack(6);
        check.due("disc(8)", x.disc(8), 8);
        check.due("readings go", x.count(1), 0);
        check.due("the reading", x.read(2, 3, 5000), 5000);
        check.due("wires go", x.count(2), 0);
        check.due("strokes go", x.count(3), 0);
        check.due("heights", x.at(2), 0);
        check.due("told heights", x.replay(2, 0), 0);
        check.due("bends", x.bend(3, 1, 0), 0);
        check.due("sags", x.bend(6, 1, 0), 0);
        check.due("aim stays", x.depth(100, 1), 54);
        check.due("lie stays", x.lie(7), 7);
        check.due("pulls stay", x.pull(2, -2, 8), 8);
        check.due("rest stays", x.rest(99), 99);
        check.due("shells stay", x.warmth(4), 11);
        check.due("air stays", x.warmth(8), 12);
        check.due("grits stay", x.count(5), 1);
        check.due("slack stays", x.slack(6), 6);
    }

    private static void aim() {
        MirrorTrue x = new MirrorTrue();
        check.due("aim(100, -30, 1)", x.aim(100, -30, 1), 0);
        check.due("aim(5000, 30, 10)", x.aim(5000, 30, 10), 0);
        // 1, and 4 times 100000000 by 1000000000000
        check.due("depth(100, 0)", x.depth(100, 0), 2501);
        check.due("depth(100, 1)", x.depth(100, 1), 2500);
        int[][] bad = {{99, 0, 1}, {5001, 0, 1}, {100, -31, 1}, {100, 31, 1}, {100, 0, 0}, {100, 0, 11},
            {-100, 0, 1}, {100, 0, -1}, {Integer.MAX_VALUE, 0, 1}, {100, Integer.MIN_VALUE, 1}};
        for (int[] row : bad) {
            check.due("aim(" + row[0] + ", " + row[1] + ", " + row[2] + ")",
                    x.aim(row[0], row[1], row[2]), MirrorTrue.BAD);
        }
        check.due("BAD changes nothing", x.depth(100, 1), 2500);
    }

    private static void depth() {
        MirrorTrue x = new MirrorTrue();
        check.due("parabola above", x.depth(3, 0), 9);
        check.due("parabola below", x.depth(3, 1), 2000);
        check.due("the middle above", x.depth(0, 0), 0);
        check.due("the middle below", x.depth(0, 1), 1);
        x.aim(100, 0, 1);
        // 1 by 200 and 1 by 8000000
        check.due("sphere above", x.depth(1, 0), 40001);
        check.due("sphere below", x.depth(1, 1), 8000000);
        x.aim(100, -3, 2);
        // 200 and (1 - 3/2) times 200: 200 - 100
        check.due("steep above", x.depth(200, 0), 100);
        check.due("steep below", x.depth(200, 1), 1);
        x.aim(100, -2, 1);
        check.due("level above", x.depth(200, 0), 0);
        check.due("level below", x.depth(200, 1), 1);
        for (int r : new int[] {-1, 201, Integer.MIN_VALUE, Integer.MAX_VALUE}) {
            check.due("depth(" + r + ", 0)", x.depth(r, 0), NO_DEPTH);
        }
        check.due("depth(5, -1)", x.depth(5, -1), NO_DEPTH);
        check.due("depth(5, 2)", x.depth(5, 2), NO_DEPTH);
    }

    private static void height() {
        MirrorTrue x = new MirrorTrue();
        check.due("height(7, 100000)", x.height(7, 100000), 0);
        check.due("height(7, -100000)", x.height(7, -100000), 100000);
        check.due("height(7, 3)", x.height(7, 3), -100000);
        check.due("height(8, 0)", x.height(8, 0), -1000000);
        check.due("height(-1, 0)", x.height(-1, 0), -1000000);
        check.due("height(0, 100001)", x.height(0, 100001), -1000000);
        check.due("height(0, -100001)", x.height(0, -100001), -1000000);
        x.pull(0, 0, 4);
        x.stroke(0, 7, 2);
        check.due("BAD leaves the strokes", x.height(9, 0), -1000000);
        check.due("strokes", x.count(3), 1);
        check.due("height(0, 1)", x.height(0, 1), 0);
        check.due("strokes go", x.count(3), 0);
        check.due("minutes go", x.count(4), 0);
        check.due("heights stay as they are", x.at(7), -5);
        check.due("and are told so", x.replay(7, 0), -5);
        check.due("none to undo", x.undo(), MirrorTrue.NO);
    }

    private static void at() {
        MirrorTrue x = new MirrorTrue();
        x.height(3, 42);
        check.due("at(3)", x.at(3), 42);
        check.due("at(2)", x.at(2), 0);
        for (int zone : new int[] {-1, 8, Integer.MIN_VALUE, Integer.MAX_VALUE}) {
            check.due("at(" + zone + ")", x.at(zone), -1000000);
        }
    }

    private static void count() {
        MirrorTrue x = new MirrorTrue();
        x.disc(5);
        x.read(0, 0, 1);
        x.read(0, 0, 2);
        x.read(1, 3, 0);
        x.read(2, 2, 7);
        x.read(2, 2, 5000);
        x.wire(0, 4, 0);
        x.stroke(0, 0, 20);
        x.stroke(1, 1, 3);
        x.stroke(2, 2, 1);
        x.undo();
        x.grit(1, 0);
        int[] counts = {5, 2, 1, 2, 23, 1};
        for (int what = 0; what < 6; what++) {
            check.due("count(" + what + ")", x.count(what), counts[what]);
        }
        for (int what : new int[] {-1, 6, Integer.MIN_VALUE, Integer.MAX_VALUE}) {
            check.due("count(" + what + ")", x.count(what), MirrorTrue.BAD);
        }
    }
}
