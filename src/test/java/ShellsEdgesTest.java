/** The edges of promises 24 to 27: warm, cool, still, warmth. */
public final class ShellsEdgesTest {
    private static final int BAD = MirrorTrue.BAD;
    private static final int NONE = MirrorTrue.NONE;
    private static final int BAD_WARMTH = -1000000;
    private static final Check check = new Check("ShellsEdgesTest");
    private static final Edges edges = new Edges(check);

    public static void main(String[] args) {
        warmRanges();
        warmKeepsEach();
        coolRange();
        coolAllAtOnce();
        coolRoundsDown();
        coolByAir();
        coolOfShellsAlone();
        coolFarApart();
        coolThousand();
        stillRange();
        stillAtOnce();
        stillJustApart();
        stillOfAir();
        stillNever();
        stillLate();
        stillOnlyTries();
        warmthRange();
        check.end();
    }

    private static MirrorTrue shells(int air, int... shells) {
        MirrorTrue x = new MirrorTrue();
        x.warm(8, air);
        for (int shell = 0; shell < shells.length; shell++) {
            x.warm(shell, shells[shell]);
        }
        return x;
    }

    private static void shellsAre(MirrorTrue x, String sentence, int... shells) {
        for (int shell = 0; shell < shells.length; shell++) {
            check.due(sentence + ": SHELL " + shell, x.warmth(shell), shells[shell]);
        }
    }

    // ---- 24: warm, 27: warmth

    private static void warmRanges() {
        edges.range("P24 SHELLS 0 to 7, 8 is AIR", 0, -333, 8, 57, (x, v) -> x.warm(v, 9), BAD_WARMTH);
        edges.range("P24 WARMTH -100000 to 100000", -100000, 367, 100000, 367,
                (x, v) -> x.warm(7, v), BAD_WARMTH);
        edges.range("P24 AIR -100000 to 100000", -100000, 57, 100000, 57,
                (x, v) -> x.warm(8, v), BAD_WARMTH);
    }

    private static void warmKeepsEach() {
        MirrorTrue x = new MirrorTrue();
        for (int shell = 0; shell <= 8; shell++) {
            check.due("P24 the least", x.warm(shell, -100000), 0);
            check.due("P24 what it was", x.warm(shell, 100000), -100000);
            check.due("P24 what it was", x.warm(shell, shell), 100000);
        }
        shellsAre(x, "P24 each its own", 0, 1, 2, 3, 4, 5, 6, 7, 8);
    }

    private static void warmthRange() {
        edges.range("P27 SHELLS 0 to 7, 8 is AIR", 0, -333, 8, 57, (x, v) -> x.warmth(v), BAD_WARMTH);
        edges.asks("P27 the last SHELL", x -> x.warmth(7), 367);
    }

    // ---- 25: cool

    private static void coolRange() {
        // by AIR the first becomes -211, the last 264; -233 and 267 stay between them
        edges.range("P25 MINUTES 1 to 1000", 1, 500, 1000, 18, (x, v) -> x.cool(v), BAD);
        edges.refuses("P25 MINUTES -1", x -> x.cool(-1), BAD);
    }

    private static void coolAllAtOnce() {
        MirrorTrue x = shells(0, 0, 64, 0, 0, 0, 0, 0, 0);
        check.due("P25 the greatest less the least", x.cool(1), 32);
        shellsAre(x, "P25 all at once", 16, 32, 16, 0, 0, 0, 0, 0, 0);
        check.due("P25 the greatest less the least", x.cool(1), 24);
        shellsAre(x, "P25 all at once", 16, 24, 16, 4, 0, 0, 0, 0, 0);
    }

    private static void coolRoundsDown() {
        for (int more = -4; more <= 4; more++) {
            MirrorTrue x = shells(0, 0, 0, 0, more, 0, 0, 0, 0);
            x.cool(1);
            int part = more < 0 ? -1 : more == 4 ? 1 : 0;
            check.due("P25 a quarter of " + more + " rounded down", x.warmth(2), part);
            check.due("P25 a quarter of " + more + " rounded down", x.warmth(4), part);
            int own = new int[] {-2, -2, -1, -1, 0, 0, 1, 1, 2}[more + 4];
            check.due("P25 less a half of " + more + " rounded down", x.warmth(3), own);
        }
    }

    private static void coolByAir() {
        MirrorTrue x = shells(40, 0, 0, 0, 0, 0, 0, 0, 0);
        check.due("P25 AIR before the first, behind the last", x.cool(1), 10);
        shellsAre(x, "P25 AIR", 10, 0, 0, 0, 0, 0, 0, 10, 40);
        MirrorTrue y = shells(-1, 0, 0, 0, 0, 0, 0, 0, 0);
        check.due("P25 AIR below by 1", y.cool(1), 1);
        shellsAre(y, "P25 AIR below by 1", -1, 0, 0, 0, 0, 0, 0, -1, -1);
    }

    private static void coolOfShellsAlone() {
        MirrorTrue x = shells(100000, 0, 0, 0, 0, 0, 0, 0, 0);
        check.due("P25 AIR is none of SHELLS: the greatest", x.cool(1), 25000);
        MirrorTrue y = shells(-100000, 0, 0, 0, 0, 0, 0, 0, 0);
        check.due("P25 AIR is none of SHELLS: the least", y.cool(1), 25000);
        check.due("P25 nothing to cool", new MirrorTrue().cool(1), 0);
    }

    private static void coolFarApart() {
        int far = 100000;
        MirrorTrue x = shells(-far, far, -far, far, -far, far, -far, far, -far);
        check.due("P25 as far apart as can be", x.cool(1), 50000);
        shellsAre(x, "P25 as far apart as can be", 0, 0, 0, 0, 0, 0, 0, -50000, -far);
        MirrorTrue y = shells(far, far, far, far, far, far, far, far, far);
        check.due("P25 all as warm as can be", y.cool(1000), 0);
        shellsAre(y, "P25 all as warm as can be", far, far, far, far, far, far, far, far, far);
    }

    private static void coolThousand() {
        MirrorTrue once = new MirrorTrue();
        MirrorTrue often = new MirrorTrue();
        for (MirrorTrue x : new MirrorTrue[] {once, often}) {
            for (int shell = 0; shell < 8; shell++) {
                x.warm(shell, shell * 24001 % 199999 - 99999);
            }
            x.warm(8, -100000);
        }
        int spread = 0;
        for (int minute = 0; minute < 300; minute++) {
            spread = often.cool(1);
        }
        check.due("P25 300 MINUTES are 300 times one", once.cool(300), spread);
        for (int shell = 0; shell <= 8; shell++) {
            check.due("P25 300 MINUTES are 300 times one", once.warmth(shell), often.warmth(shell));
        }
        for (int minute = 0; minute < 10; minute++) {
            spread = often.cool(100);
        }
        check.due("P25 1000 MINUTES are 10 times 100", once.cool(1000), spread);
        shellsAre(once, "P25 behind 1000 MINUTES", -100000, -100000, -100000, -100000);
    }

    // ---- 26: still

    private static void stillRange() {
        edges.range("P26 E 0 to 100000", 0, NONE, 100000, 0, (x, v) -> x.still(v), BAD);
    }

    private static void stillAtOnce() {
        MirrorTrue x = shells(0, 0, 0, 0, -3, 0, 0, 5, 0);
        check.due("P26 E apart: 0 MINUTES", x.still(8), 0);
        check.due("P26 1 more apart: not at once", x.still(7), 1);
        check.due("P26 all alike", shells(7, 7, 7, 7, 7, 7, 7, 7, 7).still(0), 0);
        MirrorTrue far = shells(-100000, 100000);
        check.due("P26 200000 apart", far.still(100000), 8);
        check.due("P26 100000 apart", shells(0, 100000).still(100000), 0);
        check.due("P26 100000 apart, 99999 asked", shells(0, 100000).still(99999), 1);
    }

    private static void stillJustApart() {
        // 64, then 16 32 16, then 16 24 16 4, then 14 20 15 6 1
        MirrorTrue x = shells(0, 0, 64, 0, 0, 0, 0, 0, 0);
        int[] apart = {64, 32, 24, 20};
        for (int minute = 0; minute < 4; minute++) {
            check.due("P26 just E apart", x.still(apart[minute]), minute);
            check.due("P26 1 more than E", x.still(apart[minute] - 1), minute + 1);
        }
    }

    private static void stillOfAir() {
        MirrorTrue x = shells(9, 0, 0, 0, 0, 0, 0, 0, 0);
        check.due("P26 AIR is the greatest", x.still(8), stillByCooling(9, 8));
        MirrorTrue y = shells(-9, 0, 0, 0, 0, 0, 0, 0, 0);
        check.due("P26 AIR is the least", y.still(8), stillByCooling(-9, 8));
        check.due("P26 AIR is as far as E", y.still(9), 0);
    }

    /** Till all SHELLS, 0 at first, are so near to AIR: those amid them are the last. */
    private static int stillByCooling(int air, int apart) {
        MirrorTrue x = shells(air);
        for (int minute = 0; minute < 100; minute++) {
            if (Math.abs(air - x.warmth(3)) <= apart && Math.abs(air - x.warmth(4)) <= apart) {
                return minute;
            }
            x.cool(1);
        }
        return NONE;
    }

    private static void stillNever() {
        check.due("P26 NONE: 3 less than AIR, none moves", shells(3).still(2), NONE);
        check.due("P26 3 apart they are", shells(3).still(3), 0);
        check.due("P26 NONE: 1 apart", shells(1).still(0), NONE);
        // from above they come all the way, rounded down
        check.due("P26 from above", shells(-1).still(0), 4);
    }

    private static void stillLate() {
        MirrorTrue x = shells(-99998, 71237, 88482, 100000, 99999, 100000, 92865, 100000, 99997);
        check.due("P26 the latest that was ever found", x.still(0), 320);
        x.cool(320);
        check.due("P26 by then they are", x.still(0), 0);
    }

    private static void stillOnlyTries() {
        edges.asks("P26 tried: nothing changes", x -> x.still(50), 21);
        edges.asks("P26 NONE: nothing changes", x -> x.still(0), NONE);
    }
}
