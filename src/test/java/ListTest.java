/** Promises 13 and 14: note, play. */
public final class ListTest {
    private static final int MIN = Integer.MIN_VALUE;

    public static void main(String[] args) {
        notes();
        noteLooksAtNothing();
        playsAll();
        playsNone();
        playsUntilRefused();
        playsIntoAMisfit();
        keepsTheRefusedOnes();
        fillsAgain();
        Due.end();
    }

    private static void notes() {
        CuttingTable x = Due.withNumbers(0, 1, 2);
        for (int i = 1; i <= 16; i++) {
            Due.is("note " + i, x.note(0, 0, 0, 1, 1), i);
            Due.is("note: count(3)", x.count(3), i);
        }
        Due.is("note 17", x.note(0, 1, 0, 0, 1), -1);
        Due.is("note 18", x.note(0, 1, 0, 0, 1), -1);
        Due.is("note 17: count(3)", x.count(3), 16);
        Due.frames("note does no cut", x, 0, 1, 2);
        Due.is("play of sixteen", x.play(), 16);
        Due.frames("play of sixteen", x, 0, 1, 1);
        Due.counts("play of sixteen", x, 1, 16, 16, 0, 1, 0);
    }

    private static void noteLooksAtNothing() {
        CuttingTable x = new CuttingTable();
        x.copy(0, 0);
        Due.is("note of what is not", x.note(MIN, -1, 99, MIN, -7), 1);
        Due.refusal("note leaves the refusal", x, 1, 0, 0);
        Due.is("play of it", x.play(), 0);
        Due.refusal("play of it", x, 6, 0, 0);
        Due.is("play of it: count(3)", x.count(3), 1);
    }

    private static void playsAll() {
        CuttingTable x = Due.withNumbers(0, 1, 2, 3, 4);
        Due.threadNumbers(x, 1, 0, 5, 6, 7);
        x.note(0, 0, 1, 1, 2);
        x.note(1, 1, 0, 2, 2);
        x.note(0, 3, 0, 0, 1);
        x.clear(8);
        Due.is("play", x.play(), 3);
        Due.frames("play", x, 1, 5, 1, 2);
        Due.frames("play", x, 0, 2, 2, 1, 2);
        Due.refusal("play", x, 0, 0, 0);
        Due.counts("play", x, 2, 3, 5, 0, 1, 0);
        Due.is("play again", x.play(), 0);
        Due.frames("play again", x, 0, 2, 2, 1, 2);
    }

    private static void playsNone() {
        CuttingTable x = new CuttingTable();
        x.clear(8);
        Due.is("play of an empty list", x.play(), 0);
        Due.refusal("play of an empty list", x, 0, 0, 0);
    }

    private static void playsUntilRefused() {
        int[][] wrong = {{0, 0, 8, 0, 1, 6, 0}, {0, 0, 2, 0, 1, 1, 0}, {1, 0, 0, 0, 1, 2, 0}, {0, 0, 3, 0, 1, 3, 0},
            {0, -1, 0, 0, 1, 4, 1}, {0, 0, 0, -1, 1, 4, 2}, {0, 0, 0, 0, -1, 4, 3}, {0, 3, 0, 0, 1, 4, 4},
            {0, 0, 0, 3, 1, 4, 5}};
        for (int[] w : wrong) {
            CuttingTable x = Due.withNumbers(0, 1, 2, 3);
            x.tag(1, 0);
            x.thread(3, 5, 3);
            x.note(0, 0, 0, 1, 1);
            x.note(w[0], w[1], w[2], w[3], w[4]);
            x.note(0, 0, 0, 2, 1);
            Due.is("play until " + w[5], x.play(), 1);
            Due.refusal("play until " + w[5], x, w[5], w[6], 0);
            Due.frames("play until " + w[5], x, 0, 1, 1, 3);
            Due.counts("play until " + w[5], x, 2, 1, 1, 2, 1, 0);
            Due.is("play again until " + w[5], x.play(), 0);
            Due.refusal("play again until " + w[5], x, w[5], w[6], 0);
            Due.is("play again: count(3)", x.count(3), 2);
        }
    }

    private static void playsIntoAMisfit() {
        CuttingTable x = new CuttingTable();
        Due.threadShots(x, 0, 5, 2, 1, 0);
        x.thread(1, 6, 3);
        x.note(0, 0, 1, 2, 1);
        x.note(0, 0, 1, 0, 3);
        x.note(0, 0, 0, 1, 1);
        Due.is("play into a MISFIT", x.play(), 1);
        Due.refusal("play into a MISFIT", x, 5, 0, 2);
        Due.frames("play into a MISFIT", x, 1, 42, 45, 42);
        Due.counts("play into a MISFIT", x, 2, 1, 3, 2, 2, 3);
        Due.is("takeBack of it", x.takeBack(), 2);
        Due.frames("takeBack of it", x, 1, -1, -1, 42);
        x.shoot(0, 2, 3, 0);
        Due.is("play when it fits", x.play(), 2);
        Due.frames("play when it fits", x, 1, 42, 45, -1);
        Due.frames("play when it fits", x, 0, 42, 42, -1);
    }

    private static void keepsTheRefusedOnes() {
        CuttingTable x = Due.withNumbers(0, 1, 2, 3, 4);
        x.note(0, 0, 0, 3, 1);
        x.note(0, 1, 2, 0, 2);
        x.note(2, 1, 0, 0, 1);
        Due.is("play until nothing lies there", x.play(), 1);
        Due.is("note behind them", x.note(2, 0, 0, 1, 1), 3);
        x.thread(2, 0, 2);
        Due.is("play on", x.play(), 3);
        Due.frames("play on", x, 2, 2, 3);
        Due.frames("play on", x, 0, 3, 2, 3, 1);
        Due.is("play on: count(3)", x.count(3), 0);
    }

    private static void fillsAgain() {
        CuttingTable x = Due.withNumbers(0, 1, 2, 3);
        x.note(0, 0, 0, 1, 1);
        for (int i = 2; i <= 16; i++) {
            x.note(0, 0, 1, 0, i - 2);
        }
        Due.is("play of a full list", x.play(), 1);
        Due.is("note into it", x.note(1, 0, 0, 2, 1), 16);
        Due.is("note into the full one", x.note(1, 0, 0, 2, 1), -1);
        x.thread(1, 0, 24);
        x.thread(0, 0, 24);
        x.put(0, 0, 5);
        Due.is("play of them", x.play(), 16);
        Due.is("play of them: at(0, 2)", x.at(0, 2), 5);
        Due.is("play of them: count(2)", x.count(2), 1 + 14 * 15 / 2 + 1);
    }
}
