/** Promises 9 to 15: the sentences that name a boundary case, one method a sentence. */
public final class EdgesOfCallsTest {
    private static final int MAX = Integer.MAX_VALUE;
    private static final int MIN = Integer.MIN_VALUE;

    public static void main(String[] args) {
        spliceAnswersN();
        spliceAnswersTheRefusal();
        openMoves();
        closeMoves();
        gapsOfEachStock();
        gapsRefused();
        loopIsThatManySplices();
        loopIntoTheEnd();
        loopOfTimes();
        loopLooksAtTheReel();
        loopBackwards();
        noteCounts();
        noteWhenFull();
        noteLooksAtNothing();
        playOfNone();
        playUntilEach();
        playOfAll();
        playInTheirOrder();
        takeBackOfNone();
        takeBackAsItWas();
        takeBackOnTheSameReel();
        takeBackOfTheLatestAlone();
        takeBackLeavesTheRest();
        Due.end();
    }

    private static void spliceAnswersN() {
        Due.sentence("A splice: n");
        CuttingTable x = new CuttingTable();
        x.thread(0, 0, 24);
        x.thread(1, 0, 24);
        int went = 0;
        for (int n = 0; n <= 24; n++) {
            Due.is("splice(0, 0, 1, 0, " + n + ")", x.splice(0, 0, 1, 0, n), n);
            Due.refusal("splice(0, 0, 1, 0, " + n + ")", x, 0, 0, 0);
            went += n;
            Due.counts("splice(0, 0, 1, 0, " + n + ")", x, 2, n + 1, went, 0, n, 0);
        }
    }

    private static void spliceAnswersTheRefusal() {
        Due.sentence("or 0 less the refusal");
        CuttingTable x = new CuttingTable();
        Due.threadShots(x, 0, 5, 2, 0);
        x.thread(1, 7, 2);
        x.thread(2, 4, 2);
        x.tag(3, 1);
        int[][] calls = {{0, 0, 8, 0, 1, 6}, {-1, 0, 0, 0, 1, 6}, {0, 0, 4, 0, 1, 1}, {4, 0, 0, 0, 0, 1},
            {0, 0, 3, 0, 1, 2}, {3, 0, 0, 0, 0, 2}, {0, 0, 2, 0, 1, 3}, {2, 0, 0, 0, 0, 3}, {0, -1, 1, 0, 1, 4},
            {0, 0, 1, 1, 2, 4}, {0, 1, 1, 0, 1, 5}, {0, 0, 1, 0, 2, 5}};
        for (int[] c : calls) {
            String call = "splice(" + c[0] + ", " + c[1] + ", " + c[2] + ", " + c[3] + ", " + c[4] + ")";
            Due.is(call, x.splice(c[0], c[1], c[2], c[3], c[4]), -c[5]);
            Due.is(call + ": refusal(0)", x.refusal(0), c[5]);
            Due.is(call + ": count(1)", x.count(1), 0);
        }
    }

    private static long[] numbers(int frames) {
        long[] all = new long[frames];
        for (int i = 0; i < frames; i++) {
            all[i] = 100 + i;
        }
        return all;
    }

    /** Every at and n of a few sizes: each frame has what the sentence says, told frame by frame. */
    private static void openMoves() {
        Due.sentence("The frames of a reel from at on go n places on (those that would come behind its end are gone),"
            + " the n frames from at on are blank then: how many went");
        for (int frames : new int[] {0, 1, 2, 5, 24}) {
            for (int at = 0; at <= frames; at++) {
                for (int n = 0; n <= frames - at; n++) {
                    CuttingTable x = Due.withNumbers(1, numbers(frames));
                    String call = "of " + frames + ": open(0, " + at + ", " + n + ")";
                    Due.is(call, x.open(0, at, n), frames - at - n);
                    Due.refusal(call, x, 0, 0, 0);
                    Due.is(call + ": look(0, 1)", x.look(0, 1), frames);
                    for (int i = 0; i < frames; i++) {
                        Due.is(call + ": at(0, " + i + ")", x.at(0, i),
                            i < at ? 100 + i : i < at + n ? 0 : 100 + i - n);
                    }
                }
            }
        }
    }

    private static void closeMoves() {
        Due.sentence("The n frames from at on are gone, those behind them come n places nearer, the last n are blank"
            + " then: how many came");
        for (int frames : new int[] {0, 1, 2, 5, 24}) {
            for (int at = 0; at <= frames; at++) {
                for (int n = 0; n <= frames - at; n++) {
                    CuttingTable x = Due.withNumbers(1, numbers(frames));
                    String call = "of " + frames + ": close(0, " + at + ", " + n + ")";
                    Due.is(call, x.close(0, at, n), frames - at - n);
                    Due.refusal(call, x, 0, 0, 0);
                    Due.is(call + ": look(0, 1)", x.look(0, 1), frames);
                    for (int i = 0; i < frames; i++) {
                        Due.is(call + ": at(0, " + i + ")", x.at(0, i),
                            i < at ? 100 + i : i < frames - n ? 100 + i + n : 0);
                    }
                }
            }
        }
    }

    private static void gapsOfEachStock() {
        Due.sentence("are blank then");
        for (int stock = 0; stock < 8; stock++) {
            CuttingTable x = new CuttingTable();
            long blank = stock < 5 ? 0 : -1;
            long one = stock < 5 ? 1 : 6;
            x.thread(3, stock, 3);
            x.share(3, 4);
            for (int i = 0; i < 3; i++) {
                int refused = stock < 5 ? x.put(3, i, 1) : x.shoot(3, i, 2, 1);
                Due.is("a frame of stock " + stock, refused, 0);
            }
            Due.is("open of stock " + stock, x.open(3, 1, 1), 1);
            Due.frames("open of stock " + stock, x, 4, one, blank, one);
            Due.is("close of stock " + stock, x.close(4, 0, 1), 2);
            Due.frames("close of stock " + stock, x, 3, blank, one, blank);
            Due.counts("gaps of stock " + stock, x, 1, 0, 0, 0, 0, stock < 5 ? 0 : 3);
        }
    }

    private static void gapsRefused() {
        Due.sentence("or 0 less the refusal (6, 1, 2, 4: WAY 1, 3 or 4)");
        for (int at = -2; at < 6; at++) {
            for (int n = -2; n < 6; n++) {
                CuttingTable x = Due.withNumbers(0, 1, 2, 3);
                x.tag(1, 1);
                int way = at < 0 ? 1 : n < 0 ? 3 : at + n > 3 ? 4 : 0;
                gapRefused(x, 8, at, n, 6, 0);
                gapRefused(x, -1, at, n, 6, 0);
                gapRefused(x, 2, at, n, 1, 0);
                gapRefused(x, 1, at, n, 2, 0);
                if (way != 0) {
                    gapRefused(x, 0, at, n, 4, way);
                    Due.frames("gaps refused", x, 0, 1, 2, 3);
                }
            }
        }
    }

    private static void gapRefused(CuttingTable x, int s, int at, int n, int why, int way) {
        String args = "(" + s + ", " + at + ", " + n + ")";
        Due.is("open" + args, x.open(s, at, n), -why);
        Due.refusal("open" + args, x, why, way, 0);
        x.clear(7);
        Due.is("close" + args, x.close(s, at, n), -why);
        Due.refusal("close" + args, x, why, way, 0);
        x.clear(7);
    }

    /** loop() beside the splices that it is said to be, on a table of their own. */
    private static void loopIsThatManySplices() {
        Due.sentence("For k = 1, 2 .. times a splice (spindle, at, spindle, at + k * n, n), until one is refused:"
            + " how many were not");
        for (int at = -1; at < 9; at++) {
            for (int n = -2; n < 6; n++) {
                for (int times : new int[] {0, 1, 2, 3, 19, 20}) {
                    loopBesideSplices(at, n, times);
                }
            }
        }
    }

    private static void loopBesideSplices(int at, int n, int times) {
        CuttingTable x = Due.withNumbers(0, numbers(8));
        CuttingTable y = Due.withNumbers(0, numbers(8));
        int done = 0;
        while (done < times && y.splice(0, at, 0, at + (done + 1) * n, n) >= 0) {
            done++;
        }
        String call = "loop(0, " + at + ", " + n + ", " + times + ")";
        Due.is(call, x.loop(0, at, n, times), done);
        Due.refusal(call, x, y.refusal(0), y.refusal(1), y.refusal(2));
        Due.counts(call, x, y.count(0), y.count(1), y.count(2), 0, y.count(4), 0);
        for (int i = 0; i < 8; i++) {
            Due.is(call + ": at(0, " + i + ")", x.at(0, i), y.at(0, i));
        }
        Due.is(call + ": takeBack()", x.takeBack(), y.takeBack());
        Due.is(call + ", takeBack(): alike", x.at(0, 7), y.at(0, 7));
    }

    private static void loopIntoTheEnd() {
        Due.sentence("until one is refused: how many were not");
        for (int frames = 1; frames <= 24; frames++) {
            CuttingTable x = new CuttingTable();
            x.thread(0, 0, frames);
            x.put(0, 0, 5);
            int due = Math.min(frames - 1, 20);
            Due.is("loop of 1 on " + frames, x.loop(0, 0, 1, 20), due);
            Due.refusal("loop of 1 on " + frames, x, due < 20 ? 4 : 0, due < 20 ? 5 : 0, 0);
            for (int i = 0; i < frames; i++) {
                Due.is("loop of 1 on " + frames + ": at(0, " + i + ")", x.at(0, i), i <= due ? 5 : 0);
            }
        }
        CuttingTable x = Due.withNumbers(0, 1, 2, 3, 4);
        Due.is("loop of half", x.loop(0, 0, 2, 1), 1);
        Due.refusal("loop of half", x, 0, 0, 0);
        Due.frames("loop of half", x, 0, 1, 2, 1, 2);
    }

    private static void loopOfTimes() {
        Due.sentence("0 less 6, nothing done, when there is no such spindle, or times is not 0 .. 20");
        for (int times : new int[] {MIN, -20, -1, 0, 1, 19, 20, 21, 22, 256, MAX}) {
            CuttingTable x = new CuttingTable();
            x.thread(0, 0, 24);
            x.put(0, 0, 5);
            boolean is = times >= 0 && times <= 20;
            String call = "loop(0, 0, 1, " + times + ")";
            Due.is(call, x.loop(0, 0, 1, times), is ? times : -6);
            Due.refusal(call, x, is ? 0 : 6, 0, 0);
            Due.is(call + ": at(0, 1)", x.at(0, 1), is && times > 0 ? 5 : 0);
            Due.counts(call, x, 1, is ? times : 0, is ? times : 0, 0, is && times > 0 ? 1 : 0, 0);
            for (int bad : new int[] {MIN, -1, 8, MAX}) {
                Due.is("loop(" + bad + ", 0, 1, " + times + ")", x.loop(bad, 0, 1, times), -6);
                Due.refusal("loop(" + bad + ", 0, 1, " + times + ")", x, 6, 0, 0);
            }
        }
    }

    private static void loopLooksAtTheReel() {
        Due.sentence("until one is refused: how many were not");
        CuttingTable x = new CuttingTable();
        x.tag(1, 1);
        Due.is("loop of nothing", x.loop(0, 0, 1, 20), 0);
        Due.refusal("loop of nothing", x, 1, 0, 0);
        Due.is("loop of a tag", x.loop(1, 0, 1, 20), 0);
        Due.refusal("loop of a tag", x, 2, 0, 0);
        Due.is("loop of nothing, no times", x.loop(0, 0, 1, 0), 0);
        Due.refusal("loop of nothing, no times", x, 0, 0, 0);
    }

    private static void loopBackwards() {
        Due.sentence("at + k * n, with sums that do not wrap");
        CuttingTable x = Due.withNumbers(0, 1, 2, 3);
        int[][] calls = {{0, -1, 2}, {2, -1, 3}, {2, -3, 2}, {-1, -1, 1}, {0, MIN, 2}, {MAX, MIN, 2}, {MAX, -1, 3},
            {MAX, 1, 4}, {MAX, MAX, 4}, {1, MAX, 4}, {0, MAX, 4}, {0, 1 << 30, 4}};
        for (int[] c : calls) {
            Due.is("loop(0, " + c[0] + ", " + c[1] + ", 20)", x.loop(0, c[0], c[1], 20), 0);
            Due.refusal("loop(0, " + c[0] + ", " + c[1] + ", 20)", x, 4, c[2], 0);
        }
        Due.frames("loops refused", x, 0, 1, 2, 3);
    }

    private static void noteCounts() {
        Due.sentence("A cut comes behind those of the list: how many it has");
        CuttingTable x = Due.withNumbers(0, 1, 2, 3);
        for (int round = 0; round < 3; round++) {
            for (int i = 1; i <= 5; i++) {
                Due.is("note " + i, x.note(0, 0, 0, 1, 1), i);
            }
            Due.is("play", x.play(), 5);
        }
    }

    private static void noteWhenFull() {
        Due.sentence("NONE, and none comes, when it has 16");
        CuttingTable x = Due.withNumbers(1, numbers(17));
        for (int i = 0; i < 16; i++) {
            Due.is("note " + (i + 1), x.note(0, i + 1, 0, i, 1), i + 1);
        }
        Due.is("note 17", x.note(0, 0, 0, 16, 1), -1);
        Due.is("note 18", x.note(9, 9, 9, 9, 9), -1);
        Due.is("count(3)", x.count(3), 16);
        Due.is("play", x.play(), 16);
        for (int i = 0; i < 17; i++) {
            Due.is("play: at(0, " + i + ")", x.at(0, i), i < 16 ? 101 + i : 116);
        }
        Due.is("play again", x.play(), 0);
        Due.is("note again", x.note(0, 0, 0, 0, 0), 1);
    }

    private static void noteLooksAtNothing() {
        Due.sentence("(Whether it can be done is not looked at.)");
        int[] odd = {MIN, -1, 8, 25, MAX};
        CuttingTable x = new CuttingTable();
        x.tag(0, 1);
        x.thread(9, 0, 0);
        for (int i = 0; i < 5; i++) {
            Due.is("note of no spindle", x.note(odd[i], 0, 0, 0, 0), 3 * i + 1);
            Due.is("note to no spindle", x.note(0, odd[i], odd[i], 0, 0), 3 * i + 2);
            Due.is("note of no frames", x.note(0, 0, 0, odd[i], odd[i]), 3 * i + 3);
        }
        Due.refusal("note leaves the refusal", x, 6, 0, 0);
        Due.counts("note", x, 0, 0, 0, 15, 0, 0);
    }

    private static void playOfNone() {
        Due.sentence("The cuts of the list are done: how many were done");
        CuttingTable x = Due.withNumbers(0, 1, 2);
        x.splice(0, 0, 0, 1, 1);
        x.splice(0, 5, 0, 0, 1);
        Due.is("play of an empty list", x.play(), 0);
        Due.refusal("play of an empty list", x, 0, 0, 0);
        Due.counts("play of an empty list", x, 1, 1, 1, 0, 1, 0);
    }

    /** A full list whose refused cut stands at each place: those ahead are done, it and those behind it stay. */
    private static void playUntilEach() {
        Due.sentence("until one is refused; those that were done go from the list, that one and those behind it stay:"
            + " how many were done");
        for (int stop = 0; stop < 16; stop++) {
            CuttingTable x = Due.withNumbers(1, numbers(17));
            for (int i = 0; i < 16; i++) {
                x.note(i == stop ? 3 : 0, i + 1, 0, i, 1);
            }
            Due.is("play until " + stop, x.play(), stop);
            Due.refusal("play until " + stop, x, 1, 0, 0);
            Due.is("play until " + stop + ": count(3)", x.count(3), 16 - stop);
            Due.is("play until " + stop + ": count(1)", x.count(1), stop);
            for (int i = 0; i < 17; i++) {
                Due.is("play until " + stop + ": at(0, " + i + ")", x.at(0, i), i < stop ? 101 + i : 100 + i);
            }
            Due.is("play again until " + stop, x.play(), 0);
            Due.is("play again: count(3)", x.count(3), 16 - stop);
            Due.is("note behind them", x.note(0, 0, 0, 16, 1), stop == 0 ? -1 : 17 - stop);
            x.share(0, 3);
            Due.is("play of the rest", x.play(), stop == 0 ? 16 : 17 - stop);
            for (int i = 0; i < 16; i++) {
                Due.is("play of the rest: at(0, " + i + ")", x.at(0, i), 101 + i);
            }
            Due.is("play of the rest: at(0, 16)", x.at(0, 16), stop == 0 ? 116 : 101);
            Due.is("play of the rest: count(3)", x.count(3), 0);
        }
    }

    private static void playOfAll() {
        Due.sentence("how many were done");
        for (int cuts = 0; cuts <= 16; cuts++) {
            CuttingTable x = Due.withNumbers(0, 1, 2);
            for (int i = 0; i < cuts; i++) {
                x.note(0, 0, 0, 1, i % 2);
            }
            Due.is("play of " + cuts, x.play(), cuts);
            Due.refusal("play of " + cuts, x, 0, 0, 0);
            Due.counts("play of " + cuts, x, 1, cuts, cuts / 2, 0, cuts > 1 ? 1 : 0, 0);
            Due.is("play again", x.play(), 0);
        }
    }

    private static void playInTheirOrder() {
        Due.sentence("from the first one on");
        CuttingTable x = Due.withNumbers(0, 1, 2, 3);
        x.note(0, 0, 0, 1, 1);
        x.note(0, 1, 0, 2, 1);
        x.play();
        Due.frames("first 0 to 1, then 1 to 2", x, 0, 1, 1, 1);
        x = Due.withNumbers(0, 1, 2, 3);
        x.note(0, 1, 0, 2, 1);
        x.note(0, 0, 0, 1, 1);
        x.play();
        Due.frames("first 1 to 2, then 0 to 1", x, 0, 1, 1, 2);
    }

    private static void takeBackOfNone() {
        Due.sentence("0 with an empty bin");
        CuttingTable x = new CuttingTable();
        Due.is("takeBack() of a new object", x.takeBack(), 0);
        Due.threadNumbers(x, 0, 0, 1, 2);
        x.splice(0, 0, 0, 1, 0);
        Due.is("takeBack() behind a splice of none", x.takeBack(), 0);
        x.splice(0, 0, 0, 1, 1);
        Due.is("takeBack()", x.takeBack(), 1);
        Due.is("takeBack() again", x.takeBack(), 0);
        Due.frames("takeBack() again", x, 0, 1, 2);
        x.splice(0, 0, 0, 1, 1);
        x.put(0, 0, 7);
        Due.is("takeBack() behind a put", x.takeBack(), 0);
        Due.frames("takeBack() behind a put", x, 0, 7, 1);
    }

    private static void takeBackAsItWas() {
        Due.sentence("The frames that the latest splice overwrote are as they were ahead of it: how many");
        for (int stock = 5; stock < 8; stock++) {
            CuttingTable x = new CuttingTable();
            Due.threadShots(x, 0, stock, 2, 3, 2, 2);
            x.copy(0, 1);
            for (int at = 0; at < 4; at++) {
                for (int n = 1; n <= 4 - at; n++) {
                    x.splice(0, 0, 0, at, n);
                    Due.is("takeBack() of " + n + " at " + at, x.takeBack(), n);
                    Due.is("takeBack() of " + n + " at " + at + ": the very same shots", x.alike(0, 1), true);
                }
            }
        }
    }

    private static void takeBackOnTheSameReel() {
        Due.sentence("(on the same reel, wherever that lies now)");
        CuttingTable x = Due.withNumbers(0, 1, 2, 3);
        x.splice(0, 0, 0, 1, 2);
        x.share(0, 5);
        x.share(0, 6);
        x.copy(0, 1);
        x.tag(0, 1);
        x.share(1, 5);
        Due.is("takeBack() on a reel that lies elsewhere", x.takeBack(), 2);
        Due.frames("the same reel", x, 6, 1, 2, 3);
        Due.frames("its copy", x, 1, 1, 1, 2);
        Due.frames("its copy", x, 5, 1, 1, 2);
        x.splice(6, 0, 6, 2, 1);
        x.copy(6, 6);
        Due.is("takeBack() on a reel that lies nowhere", x.takeBack(), 1);
        Due.frames("the copy in its place", x, 6, 1, 2, 1);
        x.splice(6, 0, 1, 0, 3);
        x.clear(6);
        Due.is("takeBack() on the reel that got the frames", x.takeBack(), 3);
        Due.frames("the reel that got the frames", x, 5, 1, 1, 2);
    }

    private static void takeBackOfTheLatestAlone() {
        Due.sentence("that the latest splice overwrote");
        CuttingTable x = Due.withNumbers(0, 1, 2, 3, 4);
        x.note(0, 0, 0, 1, 1);
        x.note(0, 2, 0, 3, 1);
        x.play();
        Due.is("takeBack() of a play", x.takeBack(), 1);
        Due.frames("takeBack() of a play", x, 0, 1, 1, 3, 4);
        x.loop(0, 0, 1, 3);
        Due.is("takeBack() of a loop", x.takeBack(), 1);
        Due.frames("takeBack() of a loop", x, 0, 1, 1, 1, 4);
    }

    private static void takeBackLeavesTheRest() {
        Due.sentence("how many");
        CuttingTable x = Due.withNumbers(0, 1, 2, 3, 4);
        x.note(0, 0, 0, 1, 1);
        x.splice(0, 0, 0, 1, 3);
        x.splice(0, 4, 0, 4, 1);
        Due.is("takeBack()", x.takeBack(), 3);
        Due.counts("takeBack()", x, 1, 1, 3, 1, 0, 0);
        Due.refusal("takeBack()", x, 4, 4, 0);
    }
}
