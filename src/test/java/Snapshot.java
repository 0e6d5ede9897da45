import java.util.ArrayList;
import java.util.List;

/**
 * All that can be asked of an object, a row for each answer. What is told can only be asked by
 * telling it anew, so the object is of no use afterwards. An object answers 512 calls: this takes
 * some 350 at most.
 */
final class Snapshot {
    private final MirrorTrue x;
    private final List<String> rows = new ArrayList<>();
    private final int[] counts = new int[6];

    private Snapshot(MirrorTrue x) {
        this.x = x;
    }

    /** The first answer in which two objects differ, or an empty text. */
    static String difference(MirrorTrue x, MirrorTrue y) {
        List<String> one = rowsOf(x);
        List<String> other = rowsOf(y);
        for (int k = 0; k < Math.max(one.size(), other.size()); k++) {
            String here = k < one.size() ? one.get(k) : "nothing";
            String there = k < other.size() ? other.get(k) : "nothing";
            if (!here.equals(there)) {
                return here + ", not " + there;
            }
        }
        return "";
    }

    private static List<String> rowsOf(MirrorTrue x) {
        Snapshot snapshot = new Snapshot(x);
        snapshot.askAll();
        return snapshot.rows;
    }

    private void row(String call, long answer) {
        rows.add(call + " = " + answer);
    }

    private void askAll() {
        for (int what = 0; what < 6; what++) {
            counts[what] = x.count(what);
            row("count " + what, counts[what]);
        }
        askDisc();
        askTests();
        askStrokes();
        askRings();
        askShells();
        askGrits();
        askTold();
    }

    private void askDisc() {
        for (int part = 0; part < 2; part++) {
            row("depth 100 " + part, x.depth(100, part));
        }
        askHeights();
    }

    private void askHeights() {
        for (int zone = 0; zone < counts[0]; zone++) {
            row("at " + zone, x.at(zone));
        }
    }

    private void askTests() {
        for (int what = 0; what < 3; what++) {
            row("joined " + what, x.joined(what));
        }
        for (int i = 0; i < counts[0] - 1; i++) {
            row("step " + i, x.step(i));
        }
        for (int zone = 0; zone < counts[0]; zone++) {
            row("profile " + zone, x.profile(zone));
        }
        for (int what = 0; what < 3 + counts[2]; what++) {
            row("wires " + what, x.wires(what));
        }
    }

    private void askStrokes() {
        for (int zone = 0; zone < counts[0]; zone++) {
            row("replay none, " + zone, x.replay(zone, 0));
            row("replay all, " + zone, x.replay(zone, counts[3]));
        }
        for (int tool = 0; tool < 3; tool++) {
            row("right " + tool, x.right(tool));
            for (int zone = -1; zone < counts[0]; zone++) {
                row("plan " + tool + " " + zone, x.plan(tool, zone));
            }
        }
    }

    private void askRings() {
        for (int ring = -1; ring < 6; ring++) {
            row("bear " + ring, x.bear(ring));
        }
    }

    private void askShells() {
        for (int shell = 0; shell <= 8; shell++) {
            row("warmth " + shell, x.warmth(shell));
        }
        row("still 100", x.still(100));
    }

    private void askGrits() {
        for (int i = -1; i < counts[5]; i++) {
            row("wets 77 " + i, x.wets(77, i));
            row("wets 300 " + i, x.wets(300, i));
        }
    }

    /** Last of all, since this changes what has been told. */
    private void askTold() {
        row("lie", x.lie(0));
        row("rest", x.rest(0));
        row("slack", x.slack(0));
        for (int zone = 0; zone < counts[0]; zone++) {
            for (int ring = 0; ring <= 6; ring++) {
                row("bend " + ring + " " + zone, x.bend(ring, zone, 0));
            }
            for (int test = 0; test < 3 && zone < counts[0] - 1; test++) {
                row("read " + test + " " + zone, x.read(test, zone, 5000));
            }
        }
        for (int tool = 0; tool < 3; tool++) {
            for (int d = -2; d <= 2; d++) {
                row("pull " + tool + " " + d, x.pull(tool, d, 0));
            }
        }
        for (int left = counts[3]; left > 0; left--) {
            row("minutes of " + left, x.count(4));
            row("undo", x.undo());
        }
        askHeights();
    }
}
