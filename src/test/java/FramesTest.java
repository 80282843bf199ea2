/** Promises 7, 8 and 18: put, shoot, at. */
public final class FramesTest {
    public static void main(String[] args) {
        putFits();
        putRefuses();
        shootPutsShots();
        shootMisfits();
        shootRefuses();
        shootCountsShots();
        bothEmptyTheBin();
        atAnswers();
        atThrows();
        Due.end();
    }

    private static void putOne(int stock, long value, long want) {
        CuttingTable x = new CuttingTable();
        x.thread(3, stock, 2);
        Due.is("put into stock " + stock, x.put(3, 1, value), 0);
        Due.frames("put of " + value + " into stock " + stock, x, 3, 0, want);
        Due.refusal("put", x, 0, 0, 0);
    }

    private static void putFits() {
        putOne(0, Integer.MIN_VALUE, Integer.MIN_VALUE);
        putOne(0, Integer.MAX_VALUE, Integer.MAX_VALUE);
        putOne(0, 1L << 31, Integer.MIN_VALUE);
        putOne(0, (1L << 32) + 5, 5);
        putOne(0, Long.MIN_VALUE, 0);
        putOne(1, Long.MIN_VALUE, Long.MIN_VALUE);
        putOne(1, Long.MAX_VALUE, Long.MAX_VALUE);
        putOne(1, -1, -1);
        putOne(2, 32767, 32767);
        putOne(2, 32768, -32768);
        putOne(2, -32769, 32767);
        putOne(2, 1L << 40, 0);
        putOne(3, 65535, 65535);
        putOne(3, -1, 65535);
        putOne(3, 65536, 0);
        putOne(3, 32768, 32768);
        putOne(4, 0, 0);
        putOne(4, 1, 1);
        putOne(4, -1, 1);
        putOne(4, 2, 1);
        putOne(4, 1L << 32, 1);
        putOne(4, Long.MIN_VALUE, 1);
    }

    private static void putRefuses() {
        CuttingTable x = Due.withNumbers(0, 1, 2);
        x.tag(1, 5);
        x.thread(2, 5, 2);
        x.thread(3, 6, 2);
        x.thread(4, 7, 0);
        x.thread(5, 4, 0);
        int[][] wrong = {{-1, 0, 6}, {8, 0, 6}, {Integer.MAX_VALUE, -1, 6}, {7, 0, 1}, {7, -1, 1}, {1, 0, 2},
            {1, 9, 2}, {2, 0, 3}, {3, 5, 3}, {4, -1, 3}, {0, -1, 4}, {0, 2, 4}, {0, Integer.MIN_VALUE, 4},
            {0, Integer.MAX_VALUE, 4}, {5, 0, 4}};
        for (int[] w : wrong) {
            x.clear(7);
            Due.is("put(" + w[0] + ", " + w[1] + ", 9)", x.put(w[0], w[1], 9), w[2]);
            Due.refusal("put(" + w[0] + ", " + w[1] + ", 9)", x, w[2], 0, 0);
        }
        Due.frames("put refused", x, 0, 1, 2);
        Due.frames("put refused", x, 2, -1, -1);
    }

    private static void shootPutsShots() {
        CuttingTable x = new CuttingTable();
        x.thread(0, 5, 4);
        Due.is("shoot plain", x.shoot(0, 0, 0, 7), 0);
        Due.is("shoot take", x.shoot(0, 1, 1, -7), 0);
        Due.is("shoot print", x.shoot(0, 2, 2, Integer.MAX_VALUE), 0);
        Due.is("shoot least", x.shoot(0, 3, 2, Integer.MIN_VALUE), 0);
        Due.refusal("shoot", x, 0, 0, 0);
        Due.frames("shoot", x, 0, 28, -27, 4L * Integer.MAX_VALUE + 2, 4L * Integer.MIN_VALUE + 2);
        Due.is("shoot of nothing", x.shoot(0, 1, 3, 5), 0);
        Due.frames("shoot of nothing", x, 0, 28, -1, 4L * Integer.MAX_VALUE + 2, 4L * Integer.MIN_VALUE + 2);
        Due.is("shoot plain 0", x.shoot(0, 0, 0, 0), 0);
        Due.is("shoot plain 0: at", x.at(0, 0), 0);
    }

    private static void shootMisfits() {
        int[][] dues = {{0, 0, 0, 0}, {5, 0, 0, 0}, {5, 5, 0, 0}};
        for (int stock = 5; stock < 8; stock++) {
            for (int kind = 0; kind < 4; kind++) {
                CuttingTable x = new CuttingTable();
                x.thread(0, stock, 1);
                x.shoot(0, 0, 2, 1);
                int due = dues[stock - 5][kind];
                String call = "shoot of kind " + kind + " into stock " + stock;
                Due.is(call, x.shoot(0, 0, kind, 8), due);
                Due.refusal(call, x, due, 0, 0);
                Due.is(call + ": at", x.at(0, 0), due != 0 ? 6 : kind == 3 ? -1 : 32 + kind);
                Due.is(call + ": count(5)", x.count(5), kind == 3 ? 1 : 2);
            }
        }
    }

    private static void shootRefuses() {
        CuttingTable x = new CuttingTable();
        x.thread(0, 7, 2);
        x.tag(1, 5);
        x.thread(2, 4, 2);
        int[][] wrong = {{-1, 0, 2, 6}, {8, 0, 2, 6}, {0, 0, -1, 6}, {0, 0, 4, 6}, {7, 0, 4, 6}, {1, 0, -1, 6},
            {0, 9, Integer.MAX_VALUE, 6}, {7, 0, 2, 1}, {7, 5, 0, 1}, {1, 0, 2, 2}, {2, 0, 2, 3}, {2, 9, 3, 3},
            {0, 2, 2, 4}, {0, -1, 2, 4}, {0, 2, 0, 4}, {0, Integer.MIN_VALUE, 3, 4}, {0, 1, 0, 5}, {0, 1, 1, 5}};
        for (int[] w : wrong) {
            x.clear(7);
            String call = "shoot(" + w[0] + ", " + w[1] + ", " + w[2] + ", 1)";
            Due.is(call, x.shoot(w[0], w[1], w[2], 1), w[3]);
            Due.refusal(call, x, w[3], 0, 0);
        }
        Due.frames("shoot refused", x, 0, -1, -1);
        Due.frames("shoot refused", x, 2, 0, 0);
    }

    private static void shootCountsShots() {
        CuttingTable x = new CuttingTable();
        x.thread(0, 7, 1);
        x.thread(1, 0, 1);
        x.shoot(0, 0, 2, 1);
        Due.is("shoot: count(5)", x.count(5), 1);
        x.shoot(0, 1, 2, 1);
        Due.is("shoot OUT: count(5)", x.count(5), 2);
        x.shoot(0, 0, 0, 1);
        Due.is("shoot MISFIT: count(5)", x.count(5), 3);
        x.shoot(0, 0, 3, 1);
        x.shoot(0, 1, 3, 1);
        Due.is("shoot of nothing: count(5)", x.count(5), 3);
        x.shoot(1, 0, 2, 1);
        x.shoot(2, 0, 2, 1);
        x.shoot(9, 0, 2, 1);
        x.shoot(0, 0, 4, 1);
        x.tag(3, 1);
        x.shoot(3, 0, 2, 1);
        Due.is("shoot refused ahead: count(5)", x.count(5), 3);
    }

    private static CuttingTable withBin() {
        CuttingTable x = Due.withNumbers(0, 1, 2, 3);
        x.thread(1, 6, 2);
        x.splice(0, 0, 0, 1, 2);
        Due.is("the bin: count(4)", x.count(4), 2);
        return x;
    }

    private static void bothEmptyTheBin() {
        CuttingTable x = withBin();
        x.put(0, 3, 1);
        x.put(1, 0, 1);
        x.shoot(1, 2, 1, 1);
        x.shoot(1, 0, 0, 1);
        x.shoot(0, 0, 3, 1);
        Due.is("refused put and shoot: count(4)", x.count(4), 2);
        x.put(0, 0, 1);
        Due.is("put: count(4)", x.count(4), 0);
        Due.is("put: takeBack()", x.takeBack(), 0);
        Due.frames("put, takeBack", x, 0, 1, 1, 2);
        x = withBin();
        x.shoot(1, 0, 3, 1);
        Due.is("shoot: count(4)", x.count(4), 0);
        Due.is("shoot: takeBack()", x.takeBack(), 0);
    }

    private static void atAnswers() {
        CuttingTable x = Due.withNumbers(1, -1, Long.MAX_VALUE);
        x.tag(1, 1);
        Due.frames("at", x, 0, -1, Long.MAX_VALUE);
        x.thread(1, 5, 3);
        x.shoot(1, 0, 1, 1 << 30);
        x.shoot(1, 1, 0, -1);
        Due.frames("at of shots", x, 1, (1L << 32) + 1, -4, -1);
        x.thread(9, 0, 1);
        Due.is("at of a frame", x.at(0, 0), -1);
        Due.refusal("at leaves the refusal", x, 6, 0, 0);
    }

    private static void atThrows() {
        CuttingTable x = Due.withNumbers(0, 1, 2);
        x.tag(1, 1);
        x.thread(2, 5, 0);
        x.thread(3, 7, 24);
        Due.atThrows(x, -1, 0, 1);
        Due.atThrows(x, 8, 0, 1);
        Due.atThrows(x, Integer.MIN_VALUE, -1, 1);
        Due.atThrows(x, 1, 0, 1);
        Due.atThrows(x, 1, -1, 1);
        Due.atThrows(x, 4, 0, 1);
        Due.atThrows(x, 4, 99, 1);
        Due.atThrows(x, 0, -1, 2);
        Due.atThrows(x, 0, 2, 2);
        Due.atThrows(x, 0, Integer.MAX_VALUE, 2);
        Due.atThrows(x, 0, Integer.MIN_VALUE, 2);
        Due.atThrows(x, 2, 0, 2);
        Due.atThrows(x, 3, 24, 2);
        Due.atThrows(x, 3, 23, 0);
        Due.atThrows(x, 0, 1, 0);
    }
}
