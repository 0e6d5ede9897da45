/** Objects that have been told something of everything, so that whatever goes wrong on them shows. */
final class Told {
    private Told() {
    }

    /** Five zones, two strokes and more, three wires, three grits; nothing is as at first. */
    static void all(MirrorTrue x) {
        x.disc(5);
        x.aim(300, 2, 3);
        heights(x, 40, 55, 60, 52, 47);
        x.lie(3);
        readings(x, 0, 10, -20, 30, 5000);
        readings(x, 1, 17, -13, 100, 5000);
        readings(x, 2, 4, -26, 5000, 5000);
        x.wire(0, 1, 11);
        x.wire(0, 3, 70);
        x.wire(2, 4, 5);
        x.rest(25);
        pulls(x, 0, 1, 2, 3, 2, 1);
        pulls(x, 1, 0, 1, 2, 1, 0);
        pulls(x, 2, 0, 0, 7, 0, 0);
        x.stroke(0, 2, 2);
        x.stroke(2, 0, 1);
        x.stroke(1, 4, 3);
        for (int zone = 0; zone < 5; zone++) {
            bends(x, zone);
        }
        for (int shell = 0; shell < 8; shell++) {
            x.warm(shell, 100 * shell - 333);
        }
        x.warm(8, 57);
        x.grit(20, 4);
        x.grit(9, 2);
        x.grit(2, 1);
        x.slack(4);
    }

    /** The same with no room left: 12 wires, 60 strokes, 6 grits. */
    static void full(MirrorTrue x) {
        all(x);
        nineWires(x);
        for (int k = 3; k < 60; k++) {
            x.stroke(2, k % 5, 1);
        }
        threeGrits(x);
    }

    /** No room for WIRES and GRITS, but for STROKES. */
    static void fullButForStrokes(MirrorTrue x) {
        all(x);
        nineWires(x);
        threeGrits(x);
    }

    private static void nineWires(MirrorTrue x) {
        for (int k = 3; k < 12; k++) {
            x.wire(k % 4, 4, k);
        }
    }

    private static void threeGrits(MirrorTrue x) {
        for (int k = 3; k < 6; k++) {
            x.grit(k, 1);
        }
    }

    /** The same with a zone 0 that may sink by 10 more. */
    static void deep(MirrorTrue x) {
        all(x);
        x.height(0, -99990);
    }

    static void heights(MirrorTrue x, int... heights) {
        for (int zone = 0; zone < heights.length; zone++) {
            x.height(zone, heights[zone]);
        }
    }

    static void readings(MirrorTrue x, int test, int... readings) {
        for (int i = 0; i < readings.length; i++) {
            x.read(test, i, readings[i]);
        }
    }

    /** From the pull at -2 to that at 2. */
    static void pulls(MirrorTrue x, int tool, int... pulls) {
        for (int d = -2; d <= 2; d++) {
            x.pull(tool, d, pulls[d + 2]);
        }
    }

    /** A new object with a disc of these heights. */
    static MirrorTrue disc(int... heights) {
        MirrorTrue x = new MirrorTrue();
        x.disc(heights.length);
        heights(x, heights);
        return x;
    }

    private static void bends(MirrorTrue x, int zone) {
        for (int ring = 0; ring < 6; ring++) {
            x.bend(ring, zone, (ring * 7 + zone * 11) % 23 - 11);
        }
        x.bend(6, zone, 20 - 9 * zone);
    }
}
