/** Promise 9: splice. */
public final class SpliceTest {
    private static final int MAX = Integer.MAX_VALUE;
    private static final int MIN = Integer.MIN_VALUE;

    public static void main(String[] args) {
        everyStockGoes();
        overlapsGoAsTheyWere();
        sharedReelsOverlap();
        verySameShotsGo();
        shotsGoWhereTheyAreBorne();
        misfitKeepsWhatWentAhead();
        refusalsInOrder();
        unlikeStocks();
        waysOut();
        emptySplices();
        Due.end();
    }

    private static void everyStockGoes() {
        for (int stock = 0; stock < 5; stock++) {
            CuttingTable x = Due.withNumbers(stock, 1, 0, 1, 1);
            Due.threadNumbers(x, 1, stock, 0, 1, 0, 0, 1);
            Due.is("splice", x.splice(0, 1, 1, 2, 3), 3);
            Due.refusal("splice", x, 0, 0, 0);
            Due.frames("splice", x, 1, 0, 1, 0, 1, 1);
            Due.frames("splice", x, 0, 1, 0, 1, 1);
            Due.counts("splice", x, 2, 1, 3, 0, 3, 0);
        }
        CuttingTable x = Due.withNumbers(1, Long.MIN_VALUE, Long.MAX_VALUE);
        x.thread(7, 1, 24);
        Due.is("splice to the end", x.splice(0, 0, 7, 22, 2), 2);
        Due.is("splice to the end: at", x.at(7, 22), Long.MIN_VALUE);
        Due.is("splice to the end: at", x.at(7, 23), Long.MAX_VALUE);
    }

    private static void overlapsGoAsTheyWere() {
        CuttingTable x = Due.withNumbers(0, 1, 2, 3, 4, 5, 6);
        Due.is("splice on", x.splice(0, 0, 0, 2, 4), 4);
        Due.frames("splice on", x, 0, 1, 2, 1, 2, 3, 4);
        x = Due.withNumbers(0, 1, 2, 3, 4, 5, 6);
        Due.is("splice back", x.splice(0, 2, 0, 0, 4), 4);
        Due.frames("splice back", x, 0, 3, 4, 5, 6, 5, 6);
        x = Due.withNumbers(0, 1, 2, 3);
        Due.is("splice in place", x.splice(0, 0, 0, 0, 3), 3);
        Due.frames("splice in place", x, 0, 1, 2, 3);
        Due.counts("splice in place", x, 1, 1, 3, 0, 3, 0);
    }

    private static void sharedReelsOverlap() {
        CuttingTable x = Due.withNumbers(2, 1, 2, 3, 4);
        x.share(0, 5);
        Due.is("splice on a shared reel", x.splice(0, 0, 5, 1, 3), 3);
        Due.frames("splice on a shared reel", x, 0, 1, 1, 2, 3);
        x = new CuttingTable();
        Due.threadShots(x, 0, 7, 2, 2, 3);
        Due.is("splice of prints", x.splice(0, 0, 0, 1, 2), 2);
        Due.frames("splice of prints", x, 0, 42, 42, 46);
    }

    private static void verySameShotsGo() {
        CuttingTable x = new CuttingTable();
        Due.threadShots(x, 0, 5, 1, 3);
        Due.threadShots(x, 1, 5, 1, 3);
        Due.is("equal shots are not the very same", x.alike(0, 1), false);
        Due.is("splice of shots", x.splice(0, 0, 1, 0, 2), 2);
        Due.is("the very same shots", x.alike(0, 1), true);
        Due.is("splice makes no shot", x.count(5), 2);
    }

    private static void shotsGoWhereTheyAreBorne() {
        int[][] went = {{3, 0, 0}, {3, 3, 0}, {3, 3, 3}};
        for (int source = 5; source < 8; source++) {
            for (int target = 5; target < 8; target++) {
                CuttingTable x = new CuttingTable();
                Due.threadShots(x, 0, source, source - 5, 3, source - 5);
                x.thread(1, target, 3);
                int due = went[source - 5][target - 5];
                String call = "splice from stock " + source + " to " + target;
                Due.is(call, x.splice(0, 0, 1, 0, 3), due == 3 ? 3 : -5);
                Due.refusal(call, x, due == 3 ? 0 : 5, 0, 0);
                Due.counts(call, x, 2, due == 3 ? 1 : 0, due, 0, due, 2);
            }
        }
        CuttingTable x = new CuttingTable();
        Due.threadShots(x, 0, 5, 2, 2, 3);
        x.thread(1, 7, 3);
        Due.is("prints of a reel of shots", x.splice(0, 0, 1, 0, 3), 3);
        Due.frames("prints of a reel of shots", x, 1, 42, 46, -1);
    }

    private static void misfitKeepsWhatWentAhead() {
        CuttingTable x = new CuttingTable();
        Due.threadShots(x, 0, 5, 1, 2, 3, 0, 1);
        Due.threadShots(x, 1, 6, 1, 1, 1, 1, 1, 1);
        x.splice(9, 0, 0, 0, 0);
        Due.is("splice MISFIT", x.splice(0, 0, 1, 1, 5), -5);
        Due.refusal("splice MISFIT", x, 5, 0, 3);
        Due.frames("splice MISFIT", x, 1, 41, 41, 46, -1, 57, 61);
        Due.frames("splice MISFIT", x, 0, 41, 46, -1, 52, 57);
        Due.counts("splice MISFIT", x, 2, 0, 3, 0, 3, 10);
        Due.is("splice MISFIT at once", x.splice(0, 3, 1, 0, 2), -5);
        Due.refusal("splice MISFIT at once", x, 5, 0, 0);
        Due.counts("splice MISFIT at once", x, 2, 0, 3, 0, 3, 10);
        Due.is("splice behind it", x.splice(0, 4, 1, 0, 1), 1);
        Due.refusal("splice behind it", x, 0, 0, 0);
        Due.is("OUT ahead of MISFIT", x.splice(0, 3, 1, 5, 2), -4);
        Due.refusal("OUT ahead of MISFIT", x, 4, 5, 0);
    }

    private static void refusalsInOrder() {
        CuttingTable x = Due.withNumbers(0, 1, 2);
        x.tag(1, 1);
        x.thread(2, 5, 2);
        int[][] wrong = {{-1, 0, 6}, {0, -1, 6}, {8, 7, 6}, {7, 8, 6}, {1, 8, 6}, {MIN, 1, 6}, {2, MAX, 6},
            {7, 7, 1}, {7, 0, 1}, {0, 7, 1}, {7, 1, 1}, {1, 7, 1}, {1, 0, 2}, {0, 1, 2}, {1, 1, 2}, {2, 1, 2},
            {0, 2, 3}, {2, 0, 3}};
        for (int[] w : wrong) {
            for (int n : new int[] {0, 1, -1, 99}) {
                x.clear(6);
                String call = "splice(" + w[0] + ", 0, " + w[1] + ", -1, " + n + ")";
                Due.is(call, x.splice(w[0], 0, w[1], -1, n), -w[2]);
                Due.is(call, x.refusal(0), w[2]);
                Due.is(call, x.refusal(1) + x.refusal(2), 0);
            }
        }
        Due.frames("splice refused", x, 0, 1, 2);
    }

    private static void unlikeStocks() {
        for (int source = 0; source < 8; source++) {
            for (int target = 0; target < 8; target++) {
                CuttingTable x = new CuttingTable();
                x.thread(0, source, 2);
                x.thread(1, target, 2);
                boolean unlike = source != target && (source < 5 || target < 5);
                String call = "splice of stock " + source + " to " + target;
                Due.is(call, x.splice(0, 0, 1, 1, 1), unlike ? -3 : 1);
                Due.refusal(call, x, unlike ? 3 : 0, 0, 0);
            }
        }
    }

    private static void waysOut() {
        CuttingTable x = Due.withNumbers(0, 1, 2, 3, 4, 5);
        Due.threadNumbers(x, 1, 0, 7, 8, 9);
        int[][] wrong = {{-1, 0, 1, 1}, {MIN, -1, -1, 1}, {0, -1, 1, 2}, {0, MIN, -1, 2}, {9, -1, 9, 2},
            {0, 0, -1, 3}, {9, 9, MIN, 3}, {0, 0, 6, 4}, {5, 0, 1, 4}, {6, 0, 0, 4}, {2, 9, 4, 4}, {MAX, 0, 1, 4},
            {1, 0, MAX, 4}, {MAX, MAX, MAX, 4}, {0, 0, 4, 5}, {0, 3, 1, 5}, {0, 4, 0, 5}, {0, MAX, 1, 5},
            {5, MAX, 0, 5}};
        for (int[] w : wrong) {
            x.clear(6);
            String call = "splice(0, " + w[0] + ", 1, " + w[1] + ", " + w[2] + ")";
            Due.is(call, x.splice(0, w[0], 1, w[1], w[2]), -4);
            Due.refusal(call, x, 4, w[3], 0);
        }
        Due.frames("splice OUT", x, 1, 7, 8, 9);
        Due.counts("splice OUT", x, 2, 0, 0, 0, 0, 0);
    }

    private static void emptySplices() {
        CuttingTable x = Due.withNumbers(0, 1, 2);
        x.thread(1, 0, 0);
        Due.is("splice of none", x.splice(0, 2, 1, 0, 0), 0);
        Due.refusal("splice of none", x, 0, 0, 0);
        Due.is("splice of none", x.splice(1, 0, 0, 2, 0), 0);
        Due.counts("splice of none", x, 2, 2, 0, 0, 0, 0);
    }
}
