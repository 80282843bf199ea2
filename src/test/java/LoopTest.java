/** Promise 12: loop. */
public final class LoopTest {
    private static final int MAX = Integer.MAX_VALUE;
    private static final int MIN = Integer.MIN_VALUE;

    public static void main(String[] args) {
        loops();
        loopsUntilRefused();
        loopsOfNoFrames();
        loopsOfNoTimes();
        loopRefuses();
        placesDoNotWrap();
        binHasTheLatest();
        Due.end();
    }

    private static void loops() {
        CuttingTable x = Due.withNumbers(0, 9, 1, 2, 0, 0, 0, 0, 8);
        x.clear(8);
        Due.is("loop(0, 1, 2, 2)", x.loop(0, 1, 2, 2), 2);
        Due.frames("loop(0, 1, 2, 2)", x, 0, 9, 1, 2, 1, 2, 1, 2, 8);
        Due.refusal("loop(0, 1, 2, 2)", x, 0, 0, 0);
        Due.counts("loop(0, 1, 2, 2)", x, 1, 2, 4, 0, 2, 0);
        x = new CuttingTable();
        Due.threadShots(x, 0, 6, 1, 3, 3, 3);
        Due.is("loop of takes", x.loop(0, 0, 1, 3), 3);
        Due.frames("loop of takes", x, 0, 41, 41, 41, 41);
    }

    private static void loopsUntilRefused() {
        CuttingTable x = Due.withNumbers(1, 1, 2, 0, 0, 0);
        Due.is("loop beyond the end", x.loop(0, 0, 2, 20), 1);
        Due.frames("loop beyond the end", x, 0, 1, 2, 1, 2, 0);
        Due.refusal("loop beyond the end", x, 4, 5, 0);
        Due.counts("loop beyond the end", x, 1, 1, 2, 0, 2, 0);
        x.thread(0, 0, 24);
        x.put(0, 0, 3);
        Due.is("loop of twenty", x.loop(0, 0, 1, 20), 20);
        Due.is("loop of twenty: at", x.at(0, 20), 3);
        Due.is("loop of twenty: at", x.at(0, 21), 0);
        Due.refusal("loop of twenty", x, 0, 0, 0);
    }

    private static void loopsOfNoFrames() {
        CuttingTable x = Due.withNumbers(1, 1, 2);
        Due.is("loop of no frames", x.loop(0, 2, 0, 20), 20);
        Due.counts("loop of no frames", x, 1, 20, 0, 0, 0, 0);
        Due.is("loop of no frames, OUT", x.loop(0, 3, 0, 20), 0);
        Due.refusal("loop of no frames, OUT", x, 4, 4, 0);
    }

    private static void loopsOfNoTimes() {
        CuttingTable x = new CuttingTable();
        x.clear(8);
        Due.is("loop of no times", x.loop(0, -1, -1, 0), 0);
        Due.refusal("loop of no times", x, 0, 0, 0);
    }

    private static void loopRefuses() {
        CuttingTable x = Due.withNumbers(1, 1, 2);
        x.tag(1, 1);
        int[][] wrong = {{-1, 0, 1, 1, -6, 6, 0}, {8, 0, 1, 0, -6, 6, 0}, {0, 0, 1, -1, -6, 6, 0},
            {0, 0, 1, 21, -6, 6, 0}, {7, 0, 1, 21, -6, 6, 0}, {1, 0, 1, MIN, -6, 6, 0}, {0, 0, 0, MAX, -6, 6, 0},
            {7, -1, 1, 1, 0, 1, 0}, {1, -1, 1, 1, 0, 2, 0}, {0, -1, 1, 1, 0, 4, 1}, {0, 0, -1, 1, 0, 4, 2},
            {0, 1, -1, 1, 0, 4, 3}, {0, 0, 3, 1, 0, 4, 4}, {0, 1, 2, 1, 0, 4, 4}, {0, 0, 2, 1, 0, 4, 5}};
        for (int[] w : wrong) {
            x.clear(7);
            String call = "loop(" + w[0] + ", " + w[1] + ", " + w[2] + ", " + w[3] + ")";
            Due.is(call, x.loop(w[0], w[1], w[2], w[3]), w[4]);
            Due.refusal(call, x, w[5], w[6], 0);
        }
        Due.frames("loop refused", x, 0, 1, 2);
        Due.counts("loop refused", x, 1, 0, 0, 0, 0, 0);
    }

    private static void placesDoNotWrap() {
        CuttingTable x = Due.withNumbers(1, 1, 2);
        int[][] wrong = {{MAX, 1, 4}, {MAX, MAX, 4}, {1, MAX, 4}, {0, MIN, 2}, {MAX, MIN, 2}, {MAX, -1, 3},
            {MIN, MIN, 1}};
        for (int[] w : wrong) {
            String call = "loop(0, " + w[0] + ", " + w[1] + ", 20)";
            Due.is(call, x.loop(0, w[0], w[1], 20), 0);
            Due.refusal(call, x, 4, w[2], 0);
        }
    }

    private static void binHasTheLatest() {
        CuttingTable x = Due.withNumbers(1, 1, 2, 3, 4, 5, 6, 7);
        x.loop(0, 0, 2, 20);
        Due.is("loop: count(4)", x.count(4), 2);
        Due.is("loop: takeBack()", x.takeBack(), 2);
        Due.frames("loop, takeBack", x, 0, 1, 2, 1, 2, 5, 6, 7);
    }
}
