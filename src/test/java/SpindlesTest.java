/** Promises 1 to 6: a new object, thread, tag, share, copy, clear. */
public final class SpindlesTest {
    private static final int[] NO_SPINDLES = {-1, 8, Integer.MIN_VALUE, Integer.MAX_VALUE};

    public static void main(String[] args) {
        newObject();
        newObjectsAreApart();
        threadMakesBlankReels();
        threadRefuses();
        threadTakesTheSpindle();
        tagLies();
        shareLaysTheVerySame();
        shareOfNothing();
        shareRefuses();
        copyIsAnotherReel();
        copyOfShotsHasTheVerySame();
        copyOntoItself();
        copyRefuses();
        clearLeavesNothing();
        Due.end();
    }

    private static void newObject() {
        CuttingTable x = new CuttingTable();
        for (int i = 0; i < 8; i++) {
            Due.is("new: look(" + i + ", 0)", x.look(i, 0), -1);
            Due.is("new: look(" + i + ", 1)", x.look(i, 1), -1);
            Due.is("new: look(" + i + ", 2)", x.look(i, 2), -1);
            Due.atThrows(x, i, 0, 1);
        }
        Due.counts("new", x, 0, 0, 0, 0, 0, 0);
        Due.refusal("new", x, 0, 0, 0);
        Due.is("new: takeBack()", x.takeBack(), 0);
        Due.is("new: play()", x.play(), 0);
        Due.is("NONE", CuttingTable.NONE, -1);
    }

    private static void newObjectsAreApart() {
        CuttingTable x = new CuttingTable();
        x.thread(0, 0, 3);
        x.note(0, 0, 0, 1, 1);
        x.splice(0, 0, 0, 1, 1);
        CuttingTable y = new CuttingTable();
        Due.is("second: look(0, 0)", y.look(0, 0), -1);
        Due.counts("second", y, 0, 0, 0, 0, 0, 0);
        Due.counts("first", x, 1, 1, 1, 1, 1, 0);
    }

    private static void threadMakesBlankReels() {
        CuttingTable x = new CuttingTable();
        for (int stock = 0; stock < 8; stock++) {
            Due.is("thread", x.thread(stock, stock, stock + 1), 0);
            Due.is("thread: look(.., 0)", x.look(stock, 0), stock);
            Due.is("thread: look(.., 2)", x.look(stock, 2), stock);
            long[] blank = new long[stock + 1];
            java.util.Arrays.fill(blank, stock < 5 ? 0 : -1);
            Due.frames("thread", x, stock, blank);
        }
        Due.is("thread: count(0)", x.count(0), 8);
        Due.is("thread(0, 0, 0)", x.thread(0, 0, 0), 0);
        Due.is("thread(0, 0, 0): look", x.look(0, 1), 0);
        Due.is("thread(7, 7, 24)", x.thread(7, 7, 24), 0);
        Due.is("thread(7, 7, 24): look", x.look(7, 1), 24);
        Due.is("thread(7, 7, 24): at", x.at(7, 23), -1);
    }

    private static void threadRefuses() {
        CuttingTable x = Due.withNumbers(1, 5, 6);
        int[][] wrong = {{-1, 0, 3}, {8, 0, 3}, {0, -1, 3}, {0, 8, 3}, {0, 0, -1}, {0, 0, 25},
            {0, 0, Integer.MAX_VALUE}, {0, 0, Integer.MIN_VALUE}, {0, Integer.MAX_VALUE, 1},
            {Integer.MIN_VALUE, 0, 0}, {-1, -1, -1}};
        for (int[] w : wrong) {
            x.clear(7);
            Due.is("thread refused", x.thread(w[0], w[1], w[2]), 6);
            Due.refusal("thread refused", x, 6, 0, 0);
        }
        Due.frames("thread refused", x, 0, 5, 6);
        Due.is("thread refused: count(0)", x.count(0), 1);
        x.thread(1, 1, 1);
        Due.refusal("thread", x, 0, 0, 0);
    }

    private static void threadTakesTheSpindle() {
        CuttingTable x = Due.withNumbers(1, 5, 6);
        x.share(0, 1);
        Due.is("thread over a reel", x.thread(0, 1, 2), 0);
        Due.frames("thread over a reel", x, 0, 0, 0);
        Due.frames("thread over a reel", x, 1, 5, 6);
        Due.is("thread over a reel: look(1, 2)", x.look(1, 2), 1);
        x.tag(2, 3);
        Due.is("thread over a tag", x.thread(2, 6, 1), 0);
        Due.is("thread over a tag: look(2, 0)", x.look(2, 0), 6);
    }

    private static void tagLies() {
        CuttingTable x = Due.withNumbers(0, 1);
        for (int number : new int[] {9, 0, -1, Integer.MIN_VALUE, Integer.MAX_VALUE}) {
            Due.is("tag", x.tag(0, number), 0);
            Due.is("tag: look(0, 0)", x.look(0, 0), 8);
            Due.is("tag: look(0, 1)", x.look(0, 1), number);
            Due.is("tag: look(0, 2)", x.look(0, 2), 0);
        }
        Due.atThrows(x, 0, 0, 1);
        Due.is("tag: count(0)", x.count(0), 1);
        for (int spindle : NO_SPINDLES) {
            x.clear(7);
            Due.is("tag(" + spindle + ", 1)", x.tag(spindle, 1), 6);
            Due.refusal("tag refused", x, 6, 0, 0);
        }
        Due.is("tag refused: look(0, 1)", x.look(0, 1), Integer.MAX_VALUE);
        x.tag(7, 1);
        Due.refusal("tag", x, 0, 0, 0);
    }

    private static void shareLaysTheVerySame() {
        CuttingTable x = Due.withNumbers(0, 1, 2);
        Due.is("share(0, 3)", x.share(0, 3), 0);
        Due.is("share: count(0)", x.count(0), 1);
        Due.is("share: look(3, 2)", x.look(3, 2), 0);
        x.put(3, 1, 7);
        Due.frames("share, then put", x, 0, 1, 7);
        x.tag(4, 5);
        Due.is("share of a tag", x.share(4, 2), 0);
        Due.is("share of a tag: look(2, 0)", x.look(2, 0), 8);
        Due.is("share of a tag: look(2, 1)", x.look(2, 1), 5);
        Due.is("share of a tag: look(4, 2)", x.look(4, 2), 2);
        Due.is("share onto itself", x.share(3, 3), 0);
        Due.frames("share onto itself", x, 3, 1, 7);
    }

    private static void shareOfNothing() {
        CuttingTable x = Due.withNumbers(0, 1, 2);
        Due.is("share of nothing", x.share(5, 0), 0);
        Due.is("share of nothing: look(0, 0)", x.look(0, 0), -1);
        Due.refusal("share of nothing", x, 0, 0, 0);
    }

    private static void shareRefuses() {
        CuttingTable x = Due.withNumbers(0, 1, 2);
        for (int spindle : NO_SPINDLES) {
            x.clear(7);
            Due.is("share(" + spindle + ", 0)", x.share(spindle, 0), 6);
            Due.refusal("share refused", x, 6, 0, 0);
            x.clear(7);
            Due.is("share(0, " + spindle + ")", x.share(0, spindle), 6);
            Due.refusal("share refused", x, 6, 0, 0);
        }
        Due.frames("share refused", x, 0, 1, 2);
    }

    private static void copyIsAnotherReel() {
        CuttingTable x = Due.withNumbers(3, 65, 66);
        x.tag(2, 1);
        Due.is("copy(0, 2)", x.copy(0, 2), 0);
        Due.refusal("copy", x, 0, 0, 0);
        Due.is("copy: count(0)", x.count(0), 2);
        Due.is("copy: look(2, 0)", x.look(2, 0), 3);
        Due.is("copy: look(2, 2)", x.look(2, 2), 2);
        Due.frames("copy", x, 2, 65, 66);
        Due.is("copy: alike", x.alike(0, 2), true);
        x.put(2, 0, 70);
        Due.frames("copy, then put", x, 0, 65, 66);
        Due.frames("copy, then put", x, 2, 70, 66);
    }

    private static void copyOfShotsHasTheVerySame() {
        CuttingTable x = new CuttingTable();
        Due.threadShots(x, 0, 6, 1, 2, 3);
        Due.is("copy of takes", x.copy(0, 1), 0);
        Due.is("copy of takes: look(1, 0)", x.look(1, 0), 6);
        Due.frames("copy of takes", x, 1, 41, 46, -1);
        Due.is("copy of takes: alike", x.alike(0, 1), true);
        Due.is("copy of takes: count(5)", x.count(5), 2);
    }

    private static void copyOntoItself() {
        CuttingTable x = Due.withNumbers(0, 1, 2);
        x.share(0, 1);
        Due.is("copy(1, 1)", x.copy(1, 1), 0);
        Due.is("copy(1, 1): look(1, 2)", x.look(1, 2), 1);
        Due.frames("copy(1, 1)", x, 1, 1, 2);
        Due.is("copy(1, 1): count(0)", x.count(0), 2);
    }

    private static void copyRefuses() {
        CuttingTable x = Due.withNumbers(0, 1, 2);
        x.tag(1, 4);
        for (int spindle : NO_SPINDLES) {
            x.clear(7);
            Due.is("copy(" + spindle + ", 0)", x.copy(spindle, 0), 6);
            Due.is("copy(0, " + spindle + ")", x.copy(0, spindle), 6);
            Due.is("copy(2, " + spindle + ")", x.copy(2, spindle), 6);
            Due.is("copy(1, " + spindle + ")", x.copy(1, spindle), 6);
            Due.refusal("copy refused", x, 6, 0, 0);
        }
        Due.is("copy of nothing", x.copy(2, 0), 1);
        Due.refusal("copy of nothing", x, 1, 0, 0);
        Due.is("copy of a tag", x.copy(1, 0), 2);
        Due.refusal("copy of a tag", x, 2, 0, 0);
        Due.is("copy of nothing onto a tag", x.copy(2, 1), 1);
        Due.frames("copy refused", x, 0, 1, 2);
        Due.is("copy refused: look(1, 0)", x.look(1, 0), 8);
        Due.is("copy refused: count(0)", x.count(0), 1);
        Due.is("copy onto nothing", x.copy(0, 2), 0);
        Due.is("copy onto a tag", x.copy(0, 1), 0);
    }

    private static void clearLeavesNothing() {
        CuttingTable x = Due.withNumbers(0, 1, 2);
        x.share(0, 1);
        x.tag(2, 1);
        Due.is("clear(0)", x.clear(0), 0);
        Due.is("clear(2)", x.clear(2), 0);
        Due.is("clear(5)", x.clear(5), 0);
        Due.is("clear: look(0, 0)", x.look(0, 0), -1);
        Due.is("clear: look(2, 0)", x.look(2, 0), -1);
        Due.frames("clear", x, 1, 1, 2);
        Due.is("clear: look(1, 2)", x.look(1, 2), 1);
        for (int spindle : NO_SPINDLES) {
            x.tag(7, 0);
            Due.is("clear(" + spindle + ")", x.clear(spindle), 6);
            Due.refusal("clear refused", x, 6, 0, 0);
        }
        Due.frames("clear refused", x, 1, 1, 2);
        x.clear(1);
        Due.refusal("clear", x, 0, 0, 0);
    }
}
