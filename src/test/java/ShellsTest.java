/** Promises 24 to 27: warmth of shells and air, minutes that go by, minutes till still. */
public final class ShellsTest {
    private static final Check check = new Check("ShellsTest");

    public static void main(String[] args) {
        warm();
        cool();
        still();
        check.end();
    }

    private static void warm() {
        MirrorTrue x = new MirrorTrue();
        for (int shell = 0; shell <= 8; shell++) {
            check.due("warm", x.warm(shell, 100000 - shell), 0);
            check.due("warmth", x.warmth(shell), 100000 - shell);
        }
        check.due("was", x.warm(8, -100000), 99992);
        check.due("is", x.warmth(8), -100000);
        int[][] bad = {{-1, 0}, {9, 0}, {0, 100001}, {0, -100001}, {8, 100001}};
        for (int[] row : bad) {
            check.due("warm(" + row[0] + ", " + row[1] + ")", x.warm(row[0], row[1]), -1000000);
        }
        check.due("BAD changes nothing", x.warmth(0), 100000);
        check.due("warmth(-1)", x.warmth(-1), -1000000);
        check.due("warmth(9)", x.warmth(9), -1000000);
    }

    private static void cool() {
        MirrorTrue x = new MirrorTrue();
        x.warm(3, 10);
        // shell 3: 10 + floor(-20 / 4) = 5; its neighbours: floor(10 / 4) = 2
        check.due("cool(1)", x.cool(1), 5);
        check.due("own", x.warmth(3), 5);
        check.due("ahead", x.warmth(2), 2);
        check.due("behind", x.warmth(4), 2);
        check.due("far", x.warmth(5), 0);
        // shell 3: 5 + floor((4 - 10) / 4) = 5 - 2; shell 2: 2 + floor((5 - 4) / 4); shell 1: floor(2 / 4)
        check.due("cool(1) again", x.cool(1), 3);
        check.due("rounded down", x.warmth(3), 3);
        check.due("shell 2", x.warmth(2), 2);
        check.due("shell 1", x.warmth(1), 0);
        MirrorTrue y = new MirrorTrue();
        y.warm(8, -3);
        // floor(-3 / 4) = -1 at both ends
        check.due("air", y.cool(1), 1);
        check.due("the first", y.warmth(0), -1);
        check.due("the last", y.warmth(7), -1);
        check.due("the air stays", y.warmth(8), -3);
        for (int n : new int[] {0, 1001, -1, Integer.MAX_VALUE, Integer.MIN_VALUE}) {
            check.due("cool(" + n + ")", y.cool(n), MirrorTrue.BAD);
        }
        check.due("BAD changes nothing", y.warmth(0), -1);
        check.due("cool(1000)", y.cool(1000), 0);
        check.due("as the air", y.warmth(3), -3);
        MirrorTrue z = new MirrorTrue();
        z.warm(8, 1000);
        // the air is none of the shells
        check.due("of shells alone", z.cool(1), 250);
    }

    private static void still() {
        MirrorTrue x = new MirrorTrue();
        check.due("still at once", x.still(0), 0);
        x.warm(3, 10);
        check.due("still(10)", x.still(10), 0);
        check.due("still(9)", x.still(9), 1);
        check.due("still(5)", x.still(5), 1);
        check.due("still(4)", x.still(4), 2);
        check.due("only tried", x.warmth(3), 10);
        MirrorTrue z = new MirrorTrue();
        z.warm(8, 4);
        // the air counts: 4 to 0 at first; 1 by the air at the rim then, 4 to 0 still
        check.due("still(4)", z.still(4), 0);
        check.due("still(3)", z.still(3), stillByHand(z, 3));
        MirrorTrue y = new MirrorTrue();
        y.warm(8, 1);
        // floor(1 / 4) = 0: nothing moves
        check.due("never", y.still(0), MirrorTrue.NONE);
        check.due("at once", y.still(1), 0);
        y.warm(8, 100000);
        y.warm(7, -100000);
        check.due("as far as can be", y.still(100000), stillByHand(y, 100000));
        check.due("nearer", y.still(500), stillByHand(y, 500));
        for (int e : new int[] {-1, 100001, Integer.MAX_VALUE, Integer.MIN_VALUE}) {
            check.due("still(" + e + ")", y.still(e), MirrorTrue.BAD);
        }
    }

    private static int stillByHand(MirrorTrue x, int apart) {
        int[] row = new int[10];
        row[0] = x.warmth(8);
        row[9] = x.warmth(8);
        for (int shell = 0; shell < 8; shell++) {
            row[shell + 1] = x.warmth(shell);
        }
        for (int minute = 0; minute <= 2000; minute++) {
            int[] sorted = row.clone();
            java.util.Arrays.sort(sorted);
            if (sorted[9] - sorted[0] <= apart) {
                return minute;
            }
            int[] next = row.clone();
            for (int k = 1; k <= 8; k++) {
                next[k] = row[k] + Math.floorDiv(row[k - 1] + row[k + 1] - 2 * row[k], 4);
            }
            row = next;
        }
        return MirrorTrue.NONE;
    }
}
