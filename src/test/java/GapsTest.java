/** Promises 10 and 11: open, close. */
public final class GapsTest {
    private static final int MAX = Integer.MAX_VALUE;
    private static final int MIN = Integer.MIN_VALUE;

    public static void main(String[] args) {
        opens();
        closes();
        shotsGoToo();
        bothRefuse();
        bothEmptyTheBin();
        Due.end();
    }

    private static void openOne(int at, int n, int due, long... want) {
        CuttingTable x = Due.withNumbers(0, 1, 2, 3, 4, 5);
        x.clear(8);
        String call = "open(0, " + at + ", " + n + ")";
        Due.is(call, x.open(0, at, n), due);
        Due.frames(call, x, 0, want);
        Due.refusal(call, x, 0, 0, 0);
        Due.counts(call, x, 1, 0, 0, 0, 0, 0);
    }

    private static void opens() {
        openOne(1, 2, 2, 1, 0, 0, 2, 3);
        openOne(0, 1, 4, 0, 1, 2, 3, 4);
        openOne(0, 5, 0, 0, 0, 0, 0, 0);
        openOne(3, 2, 0, 1, 2, 3, 0, 0);
        openOne(4, 1, 0, 1, 2, 3, 4, 0);
        openOne(2, 0, 3, 1, 2, 3, 4, 5);
        openOne(0, 0, 5, 1, 2, 3, 4, 5);
        openOne(5, 0, 0, 1, 2, 3, 4, 5);
    }

    private static void closeOne(int at, int n, int due, long... want) {
        CuttingTable x = Due.withNumbers(0, 1, 2, 3, 4, 5);
        x.clear(8);
        String call = "close(0, " + at + ", " + n + ")";
        Due.is(call, x.close(0, at, n), due);
        Due.frames(call, x, 0, want);
        Due.refusal(call, x, 0, 0, 0);
        Due.counts(call, x, 1, 0, 0, 0, 0, 0);
    }

    private static void closes() {
        closeOne(1, 2, 2, 1, 4, 5, 0, 0);
        closeOne(0, 1, 4, 2, 3, 4, 5, 0);
        closeOne(0, 5, 0, 0, 0, 0, 0, 0);
        closeOne(3, 2, 0, 1, 2, 3, 0, 0);
        closeOne(4, 1, 0, 1, 2, 3, 4, 0);
        closeOne(2, 0, 3, 1, 2, 3, 4, 5);
        closeOne(0, 0, 5, 1, 2, 3, 4, 5);
        closeOne(5, 0, 0, 1, 2, 3, 4, 5);
    }

    private static void shotsGoToo() {
        CuttingTable x = new CuttingTable();
        Due.threadShots(x, 0, 7, 2, 2, 2);
        x.share(0, 1);
        Due.is("open of prints", x.open(0, 1, 1), 1);
        Due.frames("open of prints", x, 1, 42, -1, 46);
        Due.is("close of prints", x.close(1, 0, 1), 2);
        Due.frames("close of prints", x, 0, -1, 46, -1);
        x.thread(2, 4, 0);
        Due.is("open of no frames", x.open(2, 0, 0), 0);
        Due.is("close of no frames", x.close(2, 0, 0), 0);
    }

    private static void refuseOne(CuttingTable x, int[] w) {
        String args = "(" + w[0] + ", " + w[1] + ", " + w[2] + ")";
        x.clear(7);
        Due.is("open" + args, x.open(w[0], w[1], w[2]), -w[3]);
        Due.refusal("open" + args, x, w[3], w[4], 0);
        x.clear(7);
        Due.is("close" + args, x.close(w[0], w[1], w[2]), -w[3]);
        Due.refusal("close" + args, x, w[3], w[4], 0);
    }

    private static void bothRefuse() {
        CuttingTable x = Due.withNumbers(0, 1, 2, 3);
        x.tag(1, 3);
        x.thread(2, 5, 0);
        int[][] wrong = {{-1, 0, 0, 6, 0}, {8, -1, -1, 6, 0}, {7, 0, 0, 1, 0}, {7, -1, 0, 1, 0}, {1, 0, 0, 2, 0},
            {1, -1, 0, 2, 0}, {0, -1, 1, 4, 1}, {0, MIN, MIN, 4, 1}, {0, -1, 99, 4, 1}, {0, 0, -1, 4, 3},
            {0, 99, MIN, 4, 3}, {0, 0, 4, 4, 4}, {0, 2, 2, 4, 4}, {0, 4, 0, 4, 4}, {0, MAX, MAX, 4, 4},
            {0, MAX, 1, 4, 4}, {0, 1, MAX, 4, 4}, {2, 0, 1, 4, 4}};
        for (int[] w : wrong) {
            refuseOne(x, w);
        }
        Due.frames("open and close refused", x, 0, 1, 2, 3);
    }

    private static void bothEmptyTheBin() {
        for (int n = 0; n < 2; n++) {
            for (int which = 0; which < 2; which++) {
                CuttingTable x = Due.withNumbers(0, 1, 2, 3);
                x.thread(1, 1, 2);
                x.splice(0, 0, 0, 1, 2);
                x.open(0, 0, 4);
                x.close(0, 4, 0);
                x.open(5, 0, 0);
                Due.is("refused open and close: count(4)", x.count(4), 2);
                Due.is("open or close of another reel", which == 0 ? x.open(1, 0, n) : x.close(1, 0, n), 2 - n);
                Due.is("open or close: count(4)", x.count(4), 0);
                Due.is("open or close: takeBack()", x.takeBack(), 0);
                Due.frames("open or close, takeBack", x, 0, 1, 1, 2);
            }
        }
    }
}
