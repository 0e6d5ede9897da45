/** Promises 7 to 13: readings, lie, joined, steps, profile, wires. */
public final class StepsTest {
    private static final Check check = new Check("StepsTest");

    public static void main(String[] args) {
        read();
        lie();
        joined();
        joinedTies();
        joinedAnew();
        step();
        stepOfShifted();
        profile();
        wire();
        wires();
        check.end();
    }

    private static void tell(MirrorTrue x, int test, int... values) {
        for (int i = 0; i < values.length; i++) {
            x.read(test, i, values[i]);
        }
    }

    private static void read() {
        MirrorTrue x = new MirrorTrue();
        x.disc(4);
        check.due("read(0, 0, 1000)", x.read(0, 0, 1000), 5000);
        check.due("read(0, 0, -1000)", x.read(0, 0, -1000), 1000);
        check.due("read(0, 0, 5000)", x.read(0, 0, 5000), -1000);
        check.due("read(2, 2, 3)", x.read(2, 2, 3), 5000);
        int[][] bad = {{-1, 0, 0}, {3, 0, 0}, {0, -1, 0}, {0, 3, 0}, {0, 0, 1001}, {0, 0, -1001},
            {0, 0, 4999}, {0, 0, 5001}, {0, 0, -5000}};
        for (int[] row : bad) {
            check.due("read(" + row[0] + ", " + row[1] + ", " + row[2] + ")",
                    x.read(row[0], row[1], row[2]), 10000);
        }
        check.due("BAD changes nothing", x.count(1), 1);
    }

    private static void lie() {
        MirrorTrue x = new MirrorTrue();
        check.due("lie(50)", x.lie(50), 2);
        check.due("lie(51)", x.lie(51), MirrorTrue.BAD);
        check.due("lie(-1)", x.lie(-1), MirrorTrue.BAD);
        check.due("lie(0)", x.lie(0), 50);
        x.disc(4);
        x.lie(3);
        tell(x, 0, 0, 0);
        tell(x, 1, 0, 6);
        check.due("6 apart, lie 3", x.joined(0), 0);
        x.lie(2);
        // shifts 2 to 4 bring 6 within 4, and 0 too
        check.due("6 apart, lie 2", x.joined(0), 0);
        check.due("shift", x.joined(1), 2);
        x.lie(0);
        check.due("6 apart, lie 0", x.joined(0), 1);
    }

    private static void joined() {
        MirrorTrue x = new MirrorTrue();
        for (int what = 0; what < 3; what++) {
            check.due("no readings", x.joined(what), 0);
        }
        check.due("joined(-1)", x.joined(-1), -100);
        check.due("joined(3)", x.joined(3), -100);
        x.disc(4);
        x.lie(0);
        tell(x, 0, 10, 20, 30);
        tell(x, 1, -10, 0, 10);
        tell(x, 2, 30, 40, 50);
        check.due("dropped", x.joined(0), 0);
        check.due("least shift", x.joined(1), -20);
        check.due("greatest shift", x.joined(2), 20);
        tell(x, 1, 30, 40, 50);
        check.due("nor dropped", x.joined(0), 0);
        check.due("greatest shift of 1", x.joined(1), 20);
        tell(x, 1, -11, -1, 9);
        check.due("21 is too far", x.joined(0), 3);
        check.due("then none", x.joined(1), 0);
        check.due("the other stays", x.joined(2), 20);
        // test 2 goes with test 1, not with test 0
        tell(x, 0, 100, 200, 5000);
        tell(x, 1, 10, 20, 30);
        tell(x, 2, 15, 25, 35);
        check.due("dropped", x.joined(0), 2);
        check.due("shift 1", x.joined(1), -5);
        check.due("shift 2", x.joined(2), 0);
    }

    private static void joinedTies() {
        MirrorTrue x = new MirrorTrue();
        x.disc(4);
        x.lie(0);
        // 1 or 2 of shift bring either step right, none both
        tell(x, 0, 0, 0);
        tell(x, 1, 2, 1);
        check.due("dropped", x.joined(0), 1);
        check.due("least size", x.joined(1), 1);
        tell(x, 1, 3, -3);
        check.due("dropped", x.joined(0), 1);
        check.due("lesser of equal sizes", x.joined(1), -3);
        // sizes 3 together: -3 and 0, -2 and -1, .. the lesser of 1 comes first
        tell(x, 0, 5000, 5000, 5000);
        tell(x, 1, 0, 5000, 5000);
        tell(x, 2, 3, 5000, 5000);
        check.due("dropped", x.joined(0), 0);
        check.due("lesser of 1", x.joined(1), -3);
        check.due("then 2", x.joined(2), 0);
        // shift 2 is 4 or -4
        tell(x, 0, 0, 0, 5000);
        tell(x, 1, 5000, 5000, 5000);
        tell(x, 2, 4, -4, 5000);
        check.due("none told", x.joined(1), 0);
        check.due("lesser of 2", x.joined(2), -4);
    }

    private static void joinedAnew() {
        for (int test = 0; test < 3; test++) {
            MirrorTrue x = new MirrorTrue();
            tell(x, test, 7, -900, 400);
            check.due("test " + test + " alone drops none", x.joined(0), 0);
            check.due("nor is 1 shifted", x.joined(1), 0);
            check.due("nor is 2 shifted", x.joined(2), 0);
        }
        MirrorTrue x = new MirrorTrue();
        x.disc(16);
        for (int i = 0; i < 15; i++) {
            x.read(0, i, i);
            x.read(1, i, i + 9);
            x.read(2, i, 1000);
        }
        check.due("a reading a step", x.joined(0), 15);
        check.due("9 apart, brought within 4", x.joined(1), 5);
        check.due("the last step", x.step(14), 16);
        x.disc(16);
        check.due("none dropped now", x.joined(0), 0);
        check.due("none shifted now", x.joined(1), 0);
        check.due("a gap now", x.step(14), 5000);
        check.due("no profile now", x.profile(15), 1000000);
    }

    private static void step() {
        MirrorTrue x = new MirrorTrue();
        x.disc(4);
        x.lie(2);
        tell(x, 0, 10, -1000, 5000);
        check.due("least within lie", x.step(0), 8);
        check.due("least of all", x.step(1), -1002);
        check.due("gap", x.step(2), 5000);
        check.due("step(3)", x.step(3), 10000);
        check.due("step(-1)", x.step(-1), 10000);
        x.read(1, 0, 13);
        check.due("both served", x.step(0), 11);
        x.read(2, 0, 200);
        check.due("two served, one dropped", x.step(0), 11);
        x.read(1, 0, 5000);
        x.read(2, 0, 5000);
        x.read(1, 2, 40);
        check.due("another test alone", x.step(2), 38);
        // three readings in the same step, none near another: the least of them
        x.disc(4);
        x.lie(0);
        tell(x, 0, 500, 0, 0);
        tell(x, 1, 400, 0, 0);
        tell(x, 2, 450, 0, 0);
        check.due("dropped", x.joined(0), 2);
        check.due("the least of three", x.step(0), 400);
        // shifted: test 1 is 7 more everywhere
        tell(x, 0, 5000, 1, 2);
        tell(x, 1, 107, 8, 9);
        tell(x, 2, 5000, 5000, 5000);
        check.due("shift is taken off", x.step(0), 100);
    }

    private static void stepOfShifted() {
        MirrorTrue x = new MirrorTrue();
        x.disc(4);
        x.lie(0);
        // test 1 is 7 more at each step; test 2 goes with test 0 but for the first
        tell(x, 0, 100, 1, 2);
        tell(x, 1, 107, 8, 9);
        tell(x, 2, 50, 1, 2);
        check.due("dropped", x.joined(0), 1);
        check.due("shift", x.joined(1), 7);
        check.due("what two tell, not the lesser that one tells", x.step(0), 100);
        x.lie(2);
        tell(x, 0, 10, 0, 0);
        tell(x, 1, 14, 0, 0);
        tell(x, 2, -500, 0, 0);
        check.due("just twice the lie apart", x.joined(0), 1);
        check.due("not shifted", x.joined(1), 0);
        check.due("amid the two", x.step(0), 12);
    }

    private static void profile() {
        MirrorTrue x = new MirrorTrue();
        x.disc(5);
        x.lie(0);
        check.due("the first zone", x.profile(0), 0);
        check.due("no steps", x.profile(1), 1000000);
        tell(x, 0, 5, -8, 5000, 4);
        check.due("profile(1)", x.profile(1), 5);
        check.due("profile(2)", x.profile(2), -3);
        check.due("behind the gap", x.profile(3), 1000000);
        check.due("far behind the gap", x.profile(4), 1000000);
        check.due("profile(5)", x.profile(5), 2000000);
        check.due("profile(-1)", x.profile(-1), 2000000);
        x.read(1, 2, 100);
        check.due("gap filled", x.profile(4), 101);
        x.lie(1);
        check.due("lie takes 1 a step", x.profile(4), 97);
    }

    private static void wire() {
        MirrorTrue x = new MirrorTrue();
        x.disc(4);
        int[][] bad = {{0, 0, 0}, {2, 1, 0}, {-1, 1, 0}, {0, 4, 0}, {0, 1, 100001}, {0, 1, -100001}};
        for (int[] row : bad) {
            check.due("wire(" + row[0] + ", " + row[1] + ", " + row[2] + ")",
                    x.wire(row[0], row[1], row[2]), MirrorTrue.BAD);
        }
        check.due("none held", x.count(2), 0);
        for (int k = 1; k <= 12; k++) {
            check.due("wire " + k, x.wire(k % 3, 3, k % 2 == 0 ? 100000 : -100000), k);
        }
        check.due("BAD before FULL", x.wire(1, 1, 0), MirrorTrue.BAD);
        check.due("FULL", x.wire(0, 1, 0), MirrorTrue.FULL);
        check.due("held", x.count(2), 12);
    }

    private static void wires() {
        MirrorTrue x = new MirrorTrue();
        x.disc(5);
        x.lie(0);
        tell(x, 0, 10, 20, 30);
        x.lie(3);
        // steps 7, 17, 27: profile 0, 7, 24, 51, none
        x.wire(0, 2, 30);
        x.wire(0, 2, 31);
        x.wire(1, 3, 38);
        x.wire(1, 3, 37);
        x.wire(2, 4, 0);
        x.wire(1, 2, 17);
        check.due("close", x.wires(0), 3);
        check.due("open", x.wires(1), 2);
        check.due("neither", x.wires(2), 1);
        int[] off = {6, 7, -6, -7, 1000000, 0};
        for (int k = 0; k < off.length; k++) {
            check.due("wires(" + (3 + k) + ")", x.wires(3 + k), off[k]);
        }
        for (int what : new int[] {-1, 9, Integer.MIN_VALUE, Integer.MAX_VALUE}) {
            check.due("wires(" + what + ")", x.wires(what), 2000000);
        }
        x.lie(4);
        // steps 6, 16, 26: profile 0, 6, 22, 48: off 8, 9, -4, -5; 16 - 17
        check.due("close by a wider lie", x.wires(0), 4);
        x.read(0, 1, 5000);
        check.due("neither by a gap", x.wires(2), 6);
    }
}
