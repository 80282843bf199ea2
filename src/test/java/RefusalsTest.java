/**
 * What 'Terms' says of refusals: which of several is the first, the WAY of an OUT with sums that do not wrap, and
 * that what is refused changes nothing.
 */
public final class RefusalsTest {
    private static final int MAX = Integer.MAX_VALUE;
    private static final int MIN = Integer.MIN_VALUE;

    /** Where spliceIsFirst() looks: no spindle, nothing, a tag, PICTURES, CLOCKS, SHOTS, PRINTS. */
    private static final int[] PLACES = {8, 0, 1, 2, 3, 4, 5};

    public static void main(String[] args) {
        numberIsFirst();
        theFirstOfSeveral();
        theFirstOfSeveralAtOneSpindle();
        unlike();
        waysInOrder();
        waysAtTheBounds();
        sumsDoNotWrap();
        refusedChangesNothing();
        Due.end();
    }

    private static void numberIsFirst() {
        Due.sentence("6 NUMBER: a spindle, stock, kind or how many of something that there is not");
        for (int bad : new int[] {-1, 8, 25, MIN, MAX}) {
            CuttingTable x = table();
            Due.is("thread, spindle " + bad, x.thread(bad, 0, 1), 6);
            Due.is("thread, stock " + bad, x.thread(0, bad, 1), 6);
            Due.is("thread, frames " + bad, x.thread(0, 0, bad == 8 ? 26 : bad), 6);
            Due.is("shoot, kind " + bad, x.shoot(0, 0, bad, 1), 6);
            Due.is("shoot on a tag, kind " + bad, x.shoot(1, 0, bad, 1), 6);
            Due.is("shoot on numbers, kind " + bad, x.shoot(2, 0, bad, 1), 6);
            Due.is("shoot OUT, kind " + bad, x.shoot(4, 9, bad, 1), 6);
            Due.is("shoot, kind " + bad, x.shoot(4, 0, bad, 1), 6);
            Due.is("loop of nothing, times " + bad, x.loop(0, 0, 0, bad == 8 ? 21 : bad), -6);
            Due.is("loop of a tag, times " + bad, x.loop(1, 0, 0, bad == 8 ? 22 : bad), -6);
            Due.is("loop OUT, times " + bad, x.loop(2, -1, 0, bad == 8 ? 23 : bad), -6);
            Due.counts("none made", x, 4, 0, 0, 0, 0, 3);
        }
    }

    /** 0 nothing, 1 a tag, 2 PICTURES, 3 CLOCKS, 4 SHOTS with a plain one, 5 PRINTS; two frames each. */
    private static CuttingTable table() {
        CuttingTable x = new CuttingTable();
        x.tag(1, 0);
        x.thread(2, 0, 2);
        x.thread(3, 1, 2);
        Due.threadShots(x, 4, 5, 0, 2);
        Due.threadShots(x, 5, 7, 3, 2);
        return x;
    }

    private static int firstOf(int from, int to, boolean out) {
        if (from == 8 || to == 8) {
            return 6;
        }
        if (from == 0 || to == 0) {
            return 1;
        }
        if (from == 1 || to == 1) {
            return 2;
        }
        if (from != to && (from < 4 || to < 4)) {
            return 3;
        }
        if (out) {
            return 4;
        }
        return from == 4 && to == 5 ? 5 : 0;
    }

    private static void theFirstOfSeveral() {
        Due.sentence("REFUSALS, of several the first one");
        for (int from : PLACES) {
            for (int to : PLACES) {
                for (int out = 0; out < 2; out++) {
                    int n = out == 0 ? 2 : 3;
                    CuttingTable x = table();
                    int due = firstOf(from, to, out == 1);
                    String call = "splice(" + from + ", 0, " + to + ", 0, " + n + ")";
                    Due.is(call, x.splice(from, 0, to, 0, n), due == 0 ? n : -due);
                    Due.refusal(call, x, due, due == 4 ? 4 : 0, 0);
                    x = table();
                    x.note(from, 0, to, 0, n);
                    Due.is("play of " + call, x.play(), due == 0 ? 1 : 0);
                    Due.refusal("play of " + call, x, due, due == 4 ? 4 : 0, 0);
                }
            }
        }
    }

    private static void theFirstOfSeveralAtOneSpindle() {
        Due.sentence("REFUSALS, of several the first one");
        int[] puts = {6, 1, 2, 4, 4, 3, 3};
        int[] shoots = {6, 1, 2, 3, 3, 4, 4};
        int[] gaps = {6, 1, 2, 4, 4, 4, 4};
        for (int i = 0; i < PLACES.length; i++) {
            CuttingTable x = table();
            int s = PLACES[i];
            Due.is("put(" + s + ", 2, 1)", x.put(s, 2, 1), puts[i]);
            Due.refusal("put(" + s + ", 2, 1)", x, puts[i], 0, 0);
            Due.is("shoot(" + s + ", -1, 0, 1)", x.shoot(s, -1, 0, 1), shoots[i]);
            Due.refusal("shoot(" + s + ", -1, 0, 1)", x, shoots[i], 0, 0);
            Due.is("open(" + s + ", 0, 3)", x.open(s, 0, 3), -gaps[i]);
            Due.refusal("open(" + s + ", 0, 3)", x, gaps[i], gaps[i] == 4 ? 4 : 0, 0);
            Due.is("close(" + s + ", 0, 3)", x.close(s, 0, 3), -gaps[i]);
            Due.refusal("close(" + s + ", 0, 3)", x, gaps[i], gaps[i] == 4 ? 4 : 0, 0);
            Due.is("loop(" + s + ", 0, 3, 2)", x.loop(s, 0, 3, 2), s == 8 ? -6 : 0);
            Due.refusal("loop(" + s + ", 0, 3, 2)", x, gaps[i], gaps[i] == 4 ? 4 : 0, 0);
            Due.is("copy(" + s + ", 8)", x.copy(s, 8), 6);
            Due.is("copy(" + s + ", 1)", x.copy(s, 1), gaps[i] == 4 ? 0 : gaps[i]);
        }
    }

    private static void unlike() {
        Due.sentence("3 UNLIKE: reels of two stocks of which one at least is of numbers");
        for (int from = 0; from < 8; from++) {
            for (int to = 0; to < 8; to++) {
                CuttingTable x = new CuttingTable();
                x.thread(0, from, 3);
                x.thread(1, to, 3);
                boolean is = from != to && (from <= 4 || to <= 4);
                for (int n = 0; n < 4; n++) {
                    Due.is("splice of " + n + " from stock " + from + " to " + to, x.splice(0, 0, 1, 0, n),
                        is ? -3 : n);
                }
                Due.is("splice, OUT, from stock " + from + " to " + to, x.splice(0, 0, 1, 0, 4), is ? -3 : -4);
                Due.is("splice, OUT, from stock " + from + " to " + to, x.splice(0, -1, 1, 0, 0), is ? -3 : -4);
            }
        }
    }

    private static int wayOf(long at, long place, long n, long first, long second) {
        long[] below = {at, place, n};
        for (int i = 0; i < 3; i++) {
            if (below[i] < 0) {
                return i + 1;
            }
        }
        return at + n > first ? 4 : place + n > second ? 5 : 0;
    }

    private static CuttingTable ofFrames(int first, int second) {
        CuttingTable x = new CuttingTable();
        x.thread(0, 2, first);
        x.thread(1, 2, second);
        return x;
    }

    private static void spliceOut(int first, int second, int at, int place, int n) {
        CuttingTable x = ofFrames(first, second);
        int way = wayOf(at, place, n, first, second);
        String call = "of " + first + " and " + second + ": splice(0, " + at + ", 1, " + place + ", " + n + ")";
        Due.is(call, x.splice(0, at, 1, place, n), way == 0 ? n : -4);
        Due.refusal(call, x, way == 0 ? 0 : 4, way, 0);
        Due.counts(call, x, 2, way == 0 ? 1 : 0, way == 0 ? n : 0, 0, way == 0 ? n : 0, 0);
        x.note(0, at, 1, place, n);
        Due.is("play of " + call, x.play(), way == 0 ? 1 : 0);
        Due.refusal("play of " + call, x, way == 0 ? 0 : 4, way, 0);
    }

    private static void waysInOrder() {
        Due.sentence("WAY of an OUT, the first one");
        int[] faults = {0, -1, 9};
        for (int at : faults) {
            for (int place : faults) {
                for (int n : new int[] {1, -1, 4}) {
                    spliceOut(3, 2, at, place, n);
                    spliceOut(2, 3, at, place, n);
                }
            }
        }
    }

    private static void waysAtTheBounds() {
        Due.sentence("1 at is below 0; 2 place is below 0; 3 n is below 0; 4 at + n is above the (first) reel's frames;"
            + " 5 place + n is above the second reel's");
        int[][] sizes = {{0, 0}, {0, 2}, {2, 0}, {1, 1}, {2, 3}, {3, 2}};
        for (int[] size : sizes) {
            for (int at = -1; at <= size[0] + 1; at++) {
                for (int place = -1; place <= size[1] + 1; place++) {
                    for (int n = -1; n < 5; n++) {
                        spliceOut(size[0], size[1], at, place, n);
                    }
                }
            }
        }
        for (int d = -1; d < 2; d++) {
            spliceOut(24, 24, 0, 0, 24 + d);
            spliceOut(24, 24, 24 + d, 0, 0);
            spliceOut(24, 24, 0, 24 + d, 0);
            spliceOut(24, 24, 23 + d, 0, 1);
            spliceOut(24, 24, 0, 23 + d, 1);
            spliceOut(24, 10, 0, 0, 10 + d);
            spliceOut(10, 24, 0, 0, 10 + d);
        }
    }

    private static void sumsDoNotWrap() {
        Due.sentence("with sums that do not wrap");
        int[] far = {MIN, MIN + 1, -1, 0, 1, 2, 1 << 30, MAX - 1, MAX};
        for (int at : far) {
            for (int place : far) {
                for (int n : far) {
                    spliceOut(2, 2, at, place, n);
                }
            }
        }
        for (int at : far) {
            for (int n : far) {
                gapOut(at, n);
                loopOut(at, n);
            }
        }
    }

    private static void gapOut(int at, int n) {
        int way = wayOf(at, 0, n, 2, 2);
        CuttingTable x = ofFrames(2, 0);
        Due.is("open(0, " + at + ", " + n + ")", x.open(0, at, n), way == 0 ? 2 - at - n : -4);
        Due.refusal("open(0, " + at + ", " + n + ")", x, way == 0 ? 0 : 4, way, 0);
        Due.is("close(0, " + at + ", " + n + ")", x.close(0, at, n), way == 0 ? 2 - at - n : -4);
        Due.refusal("close(0, " + at + ", " + n + ")", x, way == 0 ? 0 : 4, way, 0);
    }

    private static void loopOut(int at, int n) {
        CuttingTable x = ofFrames(2, 0);
        int done = 0;
        int way = 0;
        for (int k = 1; k <= 20 && way == 0; k++) {
            way = wayOf(at, at + (long) k * n, n, 2, 2);
            done += way == 0 ? 1 : 0;
        }
        Due.is("loop(0, " + at + ", " + n + ", 20)", x.loop(0, at, n, 20), done);
        Due.refusal("loop(0, " + at + ", " + n + ", 20)", x, way == 0 ? 0 : 4, way, 0);
    }

    /** Spindles 1 to 5 as table() has them, 6 and 7 with one reel, cuts on the list, and a bin that is not empty. */
    private static void busy(CuttingTable x) {
        x.tag(1, 4);
        Due.threadNumbers(x, 2, 0, 5, 6);
        Due.threadNumbers(x, 3, 1, 7, 8);
        Due.threadShots(x, 4, 5, 0, 2);
        Due.threadShots(x, 5, 7, 3, 2);
        Due.threadNumbers(x, 6, 0, 1, 2, 3);
        x.share(6, 7);
        x.note(2, 0, 6, 0, 1);
        x.note(2, 0, 3, 0, 1);
        x.splice(6, 0, 7, 1, 2);
    }

    private static void nothing(String call, int want, java.util.function.ToIntFunction<CuttingTable> refused) {
        nothing(call, want, refused, 0);
    }

    private static void nothing(String call, int want, java.util.function.ToIntFunction<CuttingTable> refused,
            int shotsMade) {
        Twins.changesNothing(call, RefusalsTest::busy, x -> Due.is(call, refused.applyAsInt(x), want), shotsMade);
    }

    private static void refusedChangesNothing() {
        Due.sentence("What is refused changes nothing");
        nothing("thread, 6", 6, x -> x.thread(6, 8, 3));
        nothing("thread, 6", 6, x -> x.thread(6, 0, 25));
        nothing("tag, 6", 6, x -> x.tag(8, 4));
        nothing("share, 6", 6, x -> x.share(8, 6));
        nothing("share, 6", 6, x -> x.share(6, 8));
        nothing("copy, 6", 6, x -> x.copy(8, 6));
        nothing("copy, 6", 6, x -> x.copy(6, -1));
        nothing("copy, 1", 1, x -> x.copy(0, 6));
        nothing("copy, 2", 2, x -> x.copy(1, 6));
        nothing("clear, 6", 6, x -> x.clear(8));
        nothing("put, 6", 6, x -> x.put(8, 0, 9));
        nothing("put, 1", 1, x -> x.put(0, 0, 9));
        nothing("put, 2", 2, x -> x.put(1, 0, 9));
        nothing("put, 3", 3, x -> x.put(4, 0, 9));
        nothing("put, 4", 4, x -> x.put(6, 3, 9));
        nothing("shoot, 6", 6, x -> x.shoot(4, 0, 4, 9));
        nothing("shoot, 6", 6, x -> x.shoot(-1, 0, 2, 9));
        nothing("shoot, 1", 1, x -> x.shoot(0, 0, 2, 9));
        nothing("shoot, 2", 2, x -> x.shoot(1, 0, 2, 9));
        nothing("shoot, 3", 3, x -> x.shoot(6, 0, 3, 9));
        nothing("shoot, 4", 4, x -> x.shoot(5, 2, 2, 9), 1);
        nothing("shoot of nothing, 4", 4, x -> x.shoot(5, -1, 3, 9), 0);
        nothing("shoot, 5", 5, x -> x.shoot(5, 0, 1, 9), 1);
        nothing("splice, 6", -6, x -> x.splice(6, 0, 8, 0, 1));
        nothing("splice, 1", -1, x -> x.splice(0, 0, 6, 0, 1));
        nothing("splice, 2", -2, x -> x.splice(6, 0, 1, 0, 1));
        nothing("splice, 3", -3, x -> x.splice(2, 0, 3, 0, 1));
        nothing("splice, 4", -4, x -> x.splice(2, 0, 6, 2, 2));
        nothing("splice, 4", -4, x -> x.splice(6, 1, 2, 0, 3));
        nothing("splice, 5 at once", -5, x -> x.splice(4, 0, 5, 0, 2));
        nothing("open, 6", -6, x -> x.open(8, 0, 1));
        nothing("open, 1", -1, x -> x.open(0, 0, 1));
        nothing("open, 2", -2, x -> x.open(1, 0, 1));
        nothing("open, 4", -4, x -> x.open(6, 2, 2));
        nothing("close, 6", -6, x -> x.close(8, 0, 1));
        nothing("close, 1", -1, x -> x.close(0, 0, 1));
        nothing("close, 2", -2, x -> x.close(1, 0, 1));
        nothing("close, 4", -4, x -> x.close(6, 2, 2));
        nothing("loop, 6", -6, x -> x.loop(8, 0, 1, 1));
        nothing("loop, 6", -6, x -> x.loop(6, 0, 1, 21));
        nothing("loop, 6", -6, x -> x.loop(6, 0, 1, -1));
        nothing("loop, 4 at once", 0, x -> x.loop(6, 0, 2, 20));
        nothing("at, no spindle", 0, x -> thrown(x, 8, 0, 1));
        nothing("at, no frame", 0, x -> thrown(x, 6, 3, 2));
        playRefusedAtOnce();
    }

    private static int thrown(CuttingTable x, int spindle, int frame, int want) {
        Due.atThrows(x, spindle, frame, want);
        return 0;
    }

    private static void playRefusedAtOnce() {
        Twins.changesNothing("play, refused at once", x -> {
            x.note(2, 0, 3, 0, 1);
            busy(x);
        }, x -> Due.is("play, refused at once", x.play(), 0), 0);
    }
}
