/** The edges of promises 7 to 13: read, lie, joined, step, profile, wire, wires. */
public final class StepsEdgesTest {
    private static final int BAD = MirrorTrue.BAD;
    private static final int FULL = MirrorTrue.FULL;
    private static final int GAP = 5000;
    private static final int BAD_READING = 10000;
    private static final int NO_PROFILE = 1000000;
    private static final int BAD_PROFILE = 2000000;
    private static final Check check = new Check("StepsEdgesTest");
    private static final Edges edges = new Edges(check);

    public static void main(String[] args) {
        readRanges();
        readGap();
        lieRange();
        lieJustReaches();
        lieJoinsAnew();
        joinedRange();
        joinedNothing();
        joinedAllApart();
        shiftReach();
        shiftOfTestZero();
        shiftOfNoReadings();
        fewestDroppedFirst();
        leastSizesThen();
        lesserShiftThen();
        oneNumberForAll();
        stepRange();
        stepExtremes();
        stepOfTies();
        stepGap();
        profileRange();
        profileBehindGap();
        profileExtremes();
        wireRanges();
        wireFull();
        wiresRange();
        wiresJustClose();
        wiresOfLieZero();
        wiresNeither();
        wiresFarOff();
        check.end();
    }

    private static MirrorTrue disc(int n, int lie) {
        MirrorTrue x = new MirrorTrue();
        x.disc(n);
        x.lie(lie);
        return x;
    }

    private static void joinedIs(MirrorTrue x, String sentence, int dropped, int one, int two) {
        check.due(sentence + ": DROPPED", x.joined(0), dropped);
        check.due(sentence + ": SHIFT of 1", x.joined(1), one);
        check.due(sentence + ": SHIFT of 2", x.joined(2), two);
    }

    // ---- 7: read

    private static void readRanges() {
        edges.range("P7 TESTS 0 to 2", 0, 10, 2, 4, (x, v) -> x.read(v, 0, 7), BAD_READING);
        edges.range("P7 READINGS 0 to n - 2", 0, 10, 3, GAP, (x, v) -> x.read(0, v, 7), BAD_READING);
        edges.range("P7 READINGS -1000 to 1000", -1000, 10, 1000, 10,
                (x, v) -> x.read(0, 0, v), BAD_READING);
        edges.answers("P7 5000: a GAP", x -> x.read(0, 0, GAP), 10);
        edges.refuses("P7 4999 is no GAP", x -> x.read(0, 0, 4999), BAD_READING);
        edges.refuses("P7 5001 is no GAP", x -> x.read(0, 0, 5001), BAD_READING);
        edges.refuses("P7 -5000 is no GAP", x -> x.read(0, 0, -5000), BAD_READING);
        edges.refuses("P7 no TEST for a GAP", x -> x.read(3, 0, GAP), BAD_READING);
        edges.refuses("P7 no STEP for a GAP", x -> x.read(0, 4, GAP), BAD_READING);
        edges.refuses("P7 10000 is no READING", x -> x.read(0, 0, BAD_READING), BAD_READING);
    }

    private static void readGap() {
        MirrorTrue x = disc(4, 0);
        check.due("P7 what it was: a GAP", x.read(1, 2, GAP), GAP);
        check.due("P7 still a GAP", x.read(1, 2, -1000), GAP);
        check.due("P7 what it was: the least", x.read(1, 2, 1000), -1000);
        check.due("P7 what it was: the greatest", x.read(1, 2, 0), 1000);
        check.due("P7 what it was: 0 is no GAP", x.read(1, 2, GAP), 0);
        check.due("P7 a GAP again", x.step(2), GAP);
        check.due("P7 no other READING is told", x.count(1), 0);
    }

    // ---- 8: lie

    private static void lieRange() {
        edges.range("P8 LIE 0 to 50", 0, 3, 50, 3, (x, v) -> x.lie(v), BAD);
    }

    private static void lieJustReaches() {
        for (int lie : new int[] {0, 1, 50}) {
            MirrorTrue x = disc(4, lie);
            Told.readings(x, 0, 0, 0, 0);
            // no SHIFT serves both of the first two, if they are one further apart
            Told.readings(x, 1, 2 * lie, -2 * lie, 0);
            joinedIs(x, "P8 each off by LIE " + lie, 0, 0, 0);
            check.due("P8 amid both", x.step(0), lie);
            check.due("P8 amid both", x.step(1), -lie);
            x.read(1, 1, -2 * lie - 1);
            check.due("P8 off by more than LIE " + lie, x.joined(0), 1);
        }
    }

    private static void lieJoinsAnew() {
        MirrorTrue x = disc(4, 0);
        Told.readings(x, 0, 0, 0, 0);
        Told.readings(x, 1, 2, -2, 0);
        x.wire(0, 1, 0);
        check.due("P8 LIE 0: each STEP on its own", x.joined(0), 2);
        check.due("P8 LIE 0: CLOSES", x.wires(0), 1);
        x.lie(1);
        check.due("P8 LIE 1: amid all", x.joined(0), 0);
        check.due("P8 LIE 1: STEP", x.step(0), 1);
        check.due("P8 LIE 1: PROFILE", x.profile(2), 0);
        check.due("P8 LIE 1: off by 1 STEP's LIE", x.wires(3), -1);
        check.due("P8 no LIE is taken that is BAD", x.lie(51), BAD);
        check.due("P8 LIE 1 still", x.step(0), 1);
    }

    // ---- 9: joined

    private static void joinedRange() {
        edges.range("P9 what 0 to 2", 0, 1, 2, -6, (x, v) -> x.joined(v), -100);
        edges.asks("P9 DROPPED", x -> x.joined(0), 1);
        edges.asks("P9 SHIFT of TEST 1", x -> x.joined(1), 1);
        edges.asks("P9 SHIFT of TEST 2", x -> x.joined(2), -6);
    }

    private static void joinedNothing() {
        for (int n : new int[] {4, 16}) {
            joinedIs(disc(n, 0), "P9 no READINGS", 0, 0, 0);
        }
        for (int test = 0; test < 3; test++) {
            MirrorTrue x = disc(16, 0);
            for (int i = 0; i < 15; i++) {
                x.read(test, i, i % 2 == 0 ? 1000 : -1000);
            }
            joinedIs(x, "P9 READINGS of TEST " + test + " alone", 0, 0, 0);
        }
    }

    private static void joinedAllApart() {
        MirrorTrue x = disc(16, 50);
        for (int i = 0; i < 15; i++) {
            x.read(0, i, -1000);
            x.read(1, i, 0);
            x.read(2, i, 1000);
        }
        joinedIs(x, "P9 each STEP keeps one READING", 30, 0, 0);
        check.due("P9 the least of three", x.step(14), -1050);
        for (int i = 0; i < 15; i++) {
            x.read(1, i, GAP);
        }
        joinedIs(x, "P9 a GAP is none that is DROPPED", 15, 0, 0);
    }

    private static void shiftReach() {
        for (int sign = -1; sign <= 1; sign += 2) {
            for (int test = 1; test < 3; test++) {
                MirrorTrue x = disc(4, 0);
                Told.readings(x, 0, 1, 2, 3);
                Told.readings(x, test, 1 + 20 * sign, 2 + 20 * sign, 3 + 20 * sign);
                check.due("P9 20 of SHIFT are in reach: DROPPED", x.joined(0), 0);
                check.due("P9 20 of SHIFT are in reach", x.joined(test), 20 * sign);
                check.due("P9 the other has none", x.joined(3 - test), 0);
                Told.readings(x, test, 1 + 21 * sign, 2 + 21 * sign, 3 + 21 * sign);
                check.due("P9 21 of SHIFT are not: DROPPED", x.joined(0), 3);
                check.due("P9 21 of SHIFT are not", x.joined(test), 0);
            }
        }
        MirrorTrue x = disc(4, 0);
        Told.readings(x, 1, -20, 0, 0);
        Told.readings(x, 2, 20, 40, 40);
        joinedIs(x, "P9 40 apart, one each way", 0, -20, 20);
        Told.readings(x, 2, 21, 41, 41);
        joinedIs(x, "P9 41 apart", 3, 0, 0);
    }

    private static void shiftOfTestZero() {
        MirrorTrue x = disc(4, 0);
        Told.readings(x, 0, 0, 0, 0);
        Told.readings(x, 1, 5, 5, 5);
        Told.readings(x, 2, 5, 5, 5);
        joinedIs(x, "P9 TEST 0 is shifted by 0", 0, 5, 5);
        check.due("P9 as TEST 0 tells", x.step(0), 0);
    }

    private static void shiftOfNoReadings() {
        MirrorTrue x = disc(4, 0);
        Told.readings(x, 0, 0, 0, GAP);
        Told.readings(x, 2, GAP, 9, 9);
        joinedIs(x, "P9 a TEST of GAPS is shifted by 0", 0, 0, 9);
        x.read(1, 2, 100);
        joinedIs(x, "P9 what no SHIFT brings near does not shift", 1, 0, 9);
    }

    private static void fewestDroppedFirst() {
        MirrorTrue x = disc(5, 0);
        Told.readings(x, 0, 0, 0, 0, 0);
        Told.readings(x, 1, 0, 20, 20, 500);
        joinedIs(x, "P9 the fewest DROPPED come before least sizes", 2, 20, 0);
    }

    private static void leastSizesThen() {
        MirrorTrue x = disc(4, 0);
        // -3 and 0, or 2 and 0, each keep one
        Told.readings(x, 0, 0, 0, GAP);
        Told.readings(x, 1, -3, 2, GAP);
        joinedIs(x, "P9 the least size, though no lesser SHIFT", 1, 2, 0);
        MirrorTrue y = disc(4, 0);
        // TESTS 0 and 1 ask 4, TESTS 0 and 2 ask 3, TESTS 1 and 2 ask 9 together
        Told.readings(y, 0, 0, 0, GAP);
        Told.readings(y, 1, 4, GAP, 0);
        Told.readings(y, 2, GAP, 3, 9);
        joinedIs(y, "P9 sizes together: 7 rather than 9 or 10", 1, 4, 3);
    }

    private static void lesserShiftThen() {
        MirrorTrue x = disc(4, 0);
        Told.readings(x, 1, 0, GAP, GAP);
        Told.readings(x, 2, 5, GAP, GAP);
        joinedIs(x, "P9 sizes 5 together: the lesser SHIFT of 1", 0, -5, 0);
        Told.readings(x, 2, -5, GAP, GAP);
        joinedIs(x, "P9 sizes 5 together, the other way", 0, 0, -5);
        MirrorTrue y = disc(4, 0);
        Told.readings(y, 0, 0, 0, GAP);
        Told.readings(y, 2, 6, -6, GAP);
        joinedIs(y, "P9 then the lesser SHIFT of 2", 1, 0, -6);
    }

    private static void oneNumberForAll() {
        MirrorTrue x = disc(5, 2);
        // the last two STEPS hold both SHIFTS at 0
        Told.readings(x, 0, 0, GAP, 0, 0);
        Told.readings(x, 1, 4, GAP, 4, -4);
        Told.readings(x, 2, 8, GAP, 4, -4);
        joinedIs(x, "P9 one number is off none by more than LIE: two of three", 1, 0, 0);
        check.due("P10 the least that serves two", x.step(0), 2);
        x.read(2, 0, 4);
        joinedIs(x, "P9 one number for three", 0, 0, 0);
        x.read(2, 0, 2);
        joinedIs(x, "P9 one number for three, one amid", 0, 0, 0);
        check.due("P10 it is off each by LIE at most", x.step(0), 2);
    }

    // ---- 10, 11: step, profile

    private static void stepRange() {
        edges.range("P10 STEPS 0 to n - 2", 0, 13, 3, GAP, (x, v) -> x.step(v), BAD_READING);
        edges.asks("P10 STEP is only asked", x -> x.step(1), -17);
    }

    private static void stepExtremes() {
        MirrorTrue x = disc(4, 0);
        Told.readings(x, 0, GAP, 0, 0);
        Told.readings(x, 1, -1000, 20, 20);
        Told.readings(x, 2, GAP, -20, -20);
        check.due("P10 less its SHIFT, below -1000", x.step(0), -1020);
        Told.readings(x, 1, GAP, 20, 20);
        x.read(2, 0, 1000);
        check.due("P10 less its SHIFT, above 1000", x.step(0), 1020);
        MirrorTrue y = disc(4, 50);
        // only 20 of SHIFT bring these within 100
        Told.readings(y, 0, GAP, 0, 0);
        Told.readings(y, 1, -1000, 120, 120);
        check.due("P10 less SHIFT and LIE", y.step(0), -1070);
    }

    private static void stepOfTies() {
        MirrorTrue x = disc(4, 1);
        Told.readings(x, 0, 30, 0, 0);
        Told.readings(x, 1, 10, 2, -2);
        Told.readings(x, 2, 20, 2, -2);
        joinedIs(x, "P10 three far apart", 2, 0, 0);
        check.due("P10 the least number of all that keep one", x.step(0), 9);
        x.read(2, 0, 31);
        check.due("P10 just so few DROPPED: not the lesser that keeps one", x.step(0), 30);
    }

    private static void stepGap() {
        MirrorTrue x = disc(4, 0);
        x.read(2, 1, 0);
        check.due("P10 a READING of one TEST is no GAP", x.step(1), 0);
        check.due("P10 GAP: all READINGS are", x.step(0), GAP);
        x.read(2, 1, GAP);
        check.due("P10 a GAP again", x.step(1), GAP);
    }

    private static void profileRange() {
        edges.range("P11 ZONES 0 to n - 1", 0, 0, 4, NO_PROFILE, (x, v) -> x.profile(v), BAD_PROFILE);
        edges.asks("P11 just ahead of the GAP", x -> x.profile(3), 23);
    }

    private static void profileBehindGap() {
        MirrorTrue x = disc(5, 0);
        Told.readings(x, 1, GAP, 1, 2, 3);
        check.due("P11 of no STEPS: 0, though a GAP comes", x.profile(0), 0);
        for (int zone = 1; zone < 5; zone++) {
            check.due("P11 none behind the first GAP, " + zone, x.profile(zone), NO_PROFILE);
        }
        x.read(1, 0, -1);
        check.due("P11 the last ZONE: all STEPS", x.profile(4), 5);
        x.read(1, 3, GAP);
        check.due("P11 ahead of a last GAP", x.profile(3), 2);
        check.due("P11 behind a last GAP", x.profile(4), NO_PROFILE);
    }

    private static void profileExtremes() {
        MirrorTrue x = disc(16, 0);
        for (int i = 0; i < 15; i++) {
            x.read(0, i, 1000);
        }
        check.due("P11 15 of the greatest", x.profile(15), 15000);
        x.lie(50);
        for (int i = 0; i < 15; i++) {
            x.read(0, i, -1000);
        }
        check.due("P11 15 of the least, less LIE", x.profile(15), -15750);
    }

    // ---- 12, 13: wire, wires

    private static void wireRanges() {
        edges.range("P12 i 0 and more, below j", 0, 4, 3, 4, (x, v) -> x.wire(v, 4, 0), BAD);
        edges.range("P12 j above i, to n - 1", 1, 4, 4, 4, (x, v) -> x.wire(0, v, 0), BAD);
        edges.range("P12 v -100000 to 100000", -100000, 4, 100000, 4, (x, v) -> x.wire(0, 4, v), BAD);
        edges.refuses("P12 j below i", x -> x.wire(3, 1, 0), BAD);
        edges.refuses("P12 j no ZONE, nor i", x -> x.wire(5, 6, 0), BAD);
        edges.refuses("P12 i no ZONE, nor j", x -> x.wire(-2, -1, 0), BAD);
    }

    private static void wireFull() {
        MirrorTrue x = disc(4, 0);
        for (int k = 1; k <= 12; k++) {
            check.due("P12 how many", x.wire(0, 3, 0), k);
        }
        check.due("P12 12 at most", x.wire(0, 3, 0), FULL);
        edges.refuses("P12 FULL", Told::full, y -> y.wire(0, 4, 0), FULL);
        edges.refuses("P12 FULL of WIRES alone", Told::fullButForStrokes, y -> y.wire(0, 4, 0), FULL);
        edges.refuses("P12 BAD v, then FULL", Told::full, y -> y.wire(0, 4, 100001), BAD);
        edges.refuses("P12 BAD i, then FULL", Told::full, y -> y.wire(4, 4, 0), BAD);
        x.disc(4);
        check.due("P12 room again with a new DISC", x.wire(0, 3, 0), 1);
    }

    private static void wiresRange() {
        edges.range("P13 what 0 to 2 and as many as there are", 0, 1, 5, 1000000,
                (x, v) -> x.wires(v), BAD_PROFILE);
        edges.asks("P13 OPEN", x -> x.wires(1), 1);
        edges.asks("P13 neither", x -> x.wires(2), 1);
        edges.asks("P13 WIRE 0", x -> x.wires(3), -2);
        edges.asks("P13 WIRE 1", x -> x.wires(4), 47);
        MirrorTrue x = new MirrorTrue();
        Told.full(x);
        check.due("P13 the last of 12", x.wires(14), 1000000);
        check.due("P13 none behind it", x.wires(15), BAD_PROFILE);
        x.disc(5);
        check.due("P13 none at all", x.wires(3), BAD_PROFILE);
    }

    private static void wiresJustClose() {
        for (int lie : new int[] {1, 50}) {
            MirrorTrue x = disc(16, lie);
            for (int i = 0; i < 15; i++) {
                x.read(0, i, lie);
            }
            // PROFILE is 0 everywhere; one STEP and 15 STEPS, at the edge and beyond it
            for (int sign = -1; sign <= 1; sign += 2) {
                x.wire(7, 8, sign * lie);
                x.wire(0, 15, sign * 15 * lie);
                check.due("P13 CLOSES by LIE a STEP", x.wires(1), sign + 1);
                x.wire(7, 8, sign * (lie + 1));
                x.wire(0, 15, sign * (15 * lie + 1));
                check.due("P13 OPEN by 1 more", x.wires(1), sign + 3);
            }
            check.due("P13 CLOSE", x.wires(0), 4);
            check.due("P13 neither", x.wires(2), 0);
            check.due("P13 off, with its sign", x.wires(4), -15 * lie);
            check.due("P13 off, with its sign", x.wires(10), 15 * lie + 1);
        }
    }

    private static void wiresOfLieZero() {
        MirrorTrue x = disc(4, 0);
        Told.readings(x, 0, 3, 3, 3);
        x.wire(0, 3, 9);
        x.wire(0, 3, 8);
        x.wire(0, 3, 10);
        x.wire(1, 3, 6);
        x.wire(2, 3, 4);
        check.due("P13 LIE 0: PROFILE of j less that of i", x.wires(6), 0);
        check.due("P13 LIE 0: what it tells less PROFILE", x.wires(7), 1);
        check.due("P13 LIE 0: as PROFILE tells", x.wires(0), 2);
        check.due("P13 LIE 0: all others", x.wires(1), 3);
    }

    private static void wiresNeither() {
        MirrorTrue x = disc(5, 0);
        Told.readings(x, 0, 1, GAP, 1, 1);
        x.wire(0, 1, 1);
        x.wire(1, 2, 1);
        x.wire(2, 3, 1);
        check.due("P13 both ahead of the GAP", x.wires(3), 0);
        check.due("P13 none, if PROFILE has one only", x.wires(4), 1000000);
        check.due("P13 none, if PROFILE has none", x.wires(5), 1000000);
        check.due("P13 neither", x.wires(2), 2);
        check.due("P13 such do not CLOSE", x.wires(0), 1);
        check.due("P13 nor are they OPEN", x.wires(1), 0);
    }

    private static void wiresFarOff() {
        MirrorTrue x = disc(16, 50);
        for (int i = 0; i < 15; i++) {
            x.read(0, i, -1000);
        }
        x.wire(0, 15, 100000);
        x.wire(0, 15, -100000);
        check.due("P13 as far off as can be", x.wires(3), 115750);
        check.due("P13 and the other way", x.wires(4), -84250);
        check.due("P13 both OPEN", x.wires(1), 2);
    }
}
