/**
 * What 'Terms' says of a splice whose stretches overlap, of a MISFIT, of the bin and of the list: one method a
 * sentence.
 */
public final class CutsTest {
    public static void main(String[] args) {
        framesGoAsTheyAreAhead();
        framesGoToAnotherReel();
        misfitsGoAsFarAsTheyAreBorne();
        misfitsInOneReelNeverCome();
        theBinHasWhatTheLatestOverwrote();
        theBinOfSpliceLoopAndPlay();
        theBinOfAMisfit();
        theBinWithoutAFrameThatWent();
        theBinIsEmptyAtFirst();
        theBinIsEmptyBehind();
        theBinStaysBehindWhatIsRefused();
        theBinStaysBehindOtherCalls();
        theListHasAtMost16();
        cutsAreToBeDone();
        Due.end();
    }

    private static long[] numbers(int frames) {
        long[] all = new long[frames];
        for (int i = 0; i < frames; i++) {
            all[i] = 100 + i;
        }
        return all;
    }

    private static long[] spliced(long[] source, int at, long[] target, int place, int n) {
        long[] all = target.clone();
        for (int i = 0; i < n; i++) {
            all[place + i] = source[at + i];
        }
        return all;
    }

    private static void overlap(int frames, int to, int at, int place, int n) {
        long[] ahead = numbers(frames);
        CuttingTable x = Due.withNumbers(1, ahead);
        x.share(0, 1);
        String call = "of " + frames + ": splice(0, " + at + ", " + to + ", " + place + ", " + n + ")";
        Due.is(call, x.splice(0, at, to, place, n), n);
        Due.frames(call, x, 0, spliced(ahead, at, ahead, place, n));
        Due.is(call + ": takeBack()", x.takeBack(), n);
        Due.frames(call + ", takeBack()", x, 0, ahead);
    }

    /** Every splice within a reel of 6, and the longest overlaps of a reel of 24, by one spindle and by two. */
    private static void framesGoAsTheyAreAhead() {
        Due.sentence("as they are ahead of it (also if both are one reel, and the stretches overlap)");
        for (int to = 0; to < 2; to++) {
            for (int at = 0; at <= 6; at++) {
                for (int place = 0; place <= 6; place++) {
                    for (int n = 0; n <= 6 - Math.max(at, place); n++) {
                        overlap(6, to, at, place, n);
                    }
                }
            }
            overlap(24, to, 0, 1, 23);
            overlap(24, to, 1, 0, 23);
            overlap(24, to, 0, 0, 24);
            overlap(24, to, 0, 12, 12);
            overlap(24, to, 12, 0, 12);
            overlap(24, to, 3, 10, 14);
            overlap(24, to, 10, 3, 14);
        }
        for (int stock = 0; stock < 5; stock++) {
            CuttingTable x = Due.withNumbers(stock, 1, 0, 0, 1, 1);
            x.splice(0, 0, 0, 1, 4);
            Due.frames("an overlap on, stock " + stock, x, 0, 1, 1, 0, 0, 1);
            x.splice(0, 2, 0, 0, 3);
            Due.frames("an overlap back, stock " + stock, x, 0, 0, 0, 1, 0, 1);
        }
        for (int stock = 5; stock < 8; stock++) {
            CuttingTable x = new CuttingTable();
            Due.threadShots(x, 0, stock, 2, 3, 2, 2);
            x.splice(0, 0, 0, 1, 3);
            Due.frames("an overlap on, stock " + stock, x, 0, 42, 42, -1, 50);
            x.splice(0, 1, 0, 0, 3);
            Due.frames("an overlap back, stock " + stock, x, 0, 42, -1, 50, 50);
        }
    }

    private static void framesGoToAnotherReel() {
        Due.sentence("the n frames from at on of the reel on spindle from go to the reel on spindle to, from its frame"
            + " place on");
        long[] target = {1, 2, 3, 4};
        for (int at = 0; at <= 5; at++) {
            for (int place = 0; place <= 4; place++) {
                for (int n = 0; n <= Math.min(5 - at, 4 - place); n++) {
                    CuttingTable x = Due.withNumbers(0, numbers(5));
                    Due.threadNumbers(x, 7, 0, target);
                    String call = "splice(0, " + at + ", 7, " + place + ", " + n + ")";
                    Due.is(call, x.splice(0, at, 7, place, n), n);
                    Due.frames(call, x, 7, spliced(numbers(5), at, target, place, n));
                    Due.frames(call, x, 0, numbers(5));
                    Due.counts(call, x, 2, 1, n, 0, n, 0);
                }
            }
        }
    }

    /** Four frames of all kinds, in all orders, into each stock. */
    private static void misfitsGoAsFarAsTheyAreBorne() {
        Due.sentence("MISFIT: those ahead of the first shot that its frame there does not bear have gone; that one, and"
            + " those behind it, not");
        for (int code = 0; code < 256; code++) {
            int[] kinds = {code & 3, code >> 2 & 3, code >> 4 & 3, code >> 6 & 3};
            for (int stock = 5; stock < 8; stock++) {
                misfit(kinds, stock);
            }
        }
    }

    private static void misfit(int[] kinds, int stock) {
        CuttingTable x = new CuttingTable();
        Due.threadShots(x, 0, 5, kinds);
        Due.threadShots(x, 1, stock, 2, 2, 2, 2, 2, 2);
        int went = 0;
        while (went < 4 && (kinds[went] == 3 || kinds[went] >= stock - 5)) {
            went++;
        }
        String call = "kinds " + java.util.Arrays.toString(kinds) + " into stock " + stock;
        Due.is(call, x.splice(0, 0, 1, 1, 4), went == 4 ? 4 : -5);
        Due.refusal(call, x, went == 4 ? 0 : 5, 0, went == 4 ? 0 : went);
        long[] due = {42, 46, 50, 54, 58, 62};
        for (int i = 0; i < went; i++) {
            due[1 + i] = kinds[i] == 3 ? -1 : 4 * (10 + i) + kinds[i];
        }
        Due.frames(call, x, 1, due);
        Due.is(call + ": count(1)", x.count(1), went == 4 ? 1 : 0);
        Due.is(call + ": count(2)", x.count(2), went);
        Due.is(call + ": count(4)", x.count(4), went);
        Due.is(call + ": takeBack()", x.takeBack(), went);
        Due.frames(call + ", takeBack()", x, 1, 42, 46, 50, 54, 58, 62);
    }

    private static void misfitsInOneReelNeverCome() {
        Due.sentence("5 MISFIT: a frame that does not bear a shot");
        for (int stock = 5; stock < 8; stock++) {
            CuttingTable x = new CuttingTable();
            Due.threadShots(x, 0, stock, stock - 5, 3, 2);
            Due.is("splice within stock " + stock, x.splice(0, 0, 0, 1, 2), 2);
            Due.is("loop within stock " + stock, x.loop(0, 0, 1, 2), 2);
            x.thread(1, stock, 3);
            Due.is("splice to a like one of stock " + stock, x.splice(0, 0, 1, 0, 3), 3);
            Due.is("alike, of stock " + stock, x.alike(0, 1), true);
        }
    }

    private static void theBinHasWhatTheLatestOverwrote() {
        Due.sentence("The BIN has what the latest splice in which a frame went overwrote");
        for (int n = 1; n <= 24; n++) {
            CuttingTable x = Due.withNumbers(1, numbers(24));
            x.thread(1, 1, 24);
            x.splice(1, 0, 0, 0, 1);
            x.splice(1, 0, 0, 24 - n, n);
            Due.is("of " + n + ": count(4)", x.count(4), n);
            Due.is("of " + n + ": takeBack()", x.takeBack(), n);
            for (int i = 0; i < 24; i++) {
                boolean stays = i == 0;
                Due.is("of " + n + ", takeBack(): at(0, " + i + ")", x.at(0, i), stays ? 0 : 100 + i);
            }
            Due.is("of " + n + ", takeBack(): count(4)", x.count(4), 0);
        }
    }

    private static void theBinOfSpliceLoopAndPlay() {
        Due.sentence("(by splice(), loop() or play(); of one that is a MISFIT, too)");
        CuttingTable x = Due.withNumbers(0, 1, 2, 3, 4, 5, 6);
        x.splice(0, 0, 0, 4, 2);
        Due.is("splice: takeBack()", x.takeBack(), 2);
        Due.frames("splice, takeBack()", x, 0, 1, 2, 3, 4, 5, 6);
        x.loop(0, 0, 1, 3);
        Due.is("loop: takeBack()", x.takeBack(), 1);
        Due.frames("loop, takeBack()", x, 0, 1, 1, 1, 4, 5, 6);
        x.loop(0, 2, 2, 20);
        Due.refusal("loop until OUT", x, 4, 5, 0);
        Due.is("loop until OUT: takeBack()", x.takeBack(), 2);
        Due.frames("loop until OUT, takeBack()", x, 0, 1, 1, 1, 4, 5, 6);
        x.note(0, 3, 0, 0, 3);
        x.note(0, 0, 0, 5, 1);
        x.note(0, 0, 0, 6, 1);
        Due.is("play until OUT", x.play(), 2);
        Due.is("play until OUT: takeBack()", x.takeBack(), 1);
        Due.frames("play until OUT, takeBack()", x, 0, 4, 5, 6, 4, 5, 6);
    }

    private static void theBinOfAMisfit() {
        Due.sentence("of one that is a MISFIT, too");
        CuttingTable x = new CuttingTable();
        Due.threadShots(x, 0, 5, 2, 2, 0);
        Due.threadShots(x, 1, 7, 2, 2, 2);
        x.splice(1, 2, 1, 0, 1);
        x.splice(0, 0, 1, 0, 3);
        Due.is("splice: count(4)", x.count(4), 2);
        Due.is("splice: takeBack()", x.takeBack(), 2);
        Due.frames("splice, takeBack()", x, 1, 50, 46, 50);
        x.note(0, 0, 1, 1, 1);
        x.note(0, 1, 1, 0, 2);
        Due.is("play", x.play(), 1);
        Due.is("play: takeBack()", x.takeBack(), 1);
        Due.frames("play, takeBack()", x, 1, 50, 42, 50);
    }

    private static void theBinWithoutAFrameThatWent() {
        Due.sentence("the latest splice in which a frame went");
        CuttingTable x = new CuttingTable();
        Due.threadShots(x, 0, 5, 0, 2, 2);
        Due.threadShots(x, 1, 7, 2, 2, 2);
        x.splice(0, 1, 1, 0, 2);
        Due.is("a splice of none", x.splice(0, 0, 1, 2, 0), 0);
        Due.is("a splice of none: count(4)", x.count(4), 2);
        Due.is("a MISFIT at once", x.splice(0, 0, 1, 1, 2), -5);
        Due.is("a MISFIT at once: count(4)", x.count(4), 2);
        Due.is("a loop of none", x.loop(0, 0, 0, 20), 20);
        Due.is("a loop of no times", x.loop(0, 0, 1, 0), 0);
        Due.is("loops of none: count(4)", x.count(4), 2);
        x.note(0, 0, 0, 0, 0);
        x.note(0, 0, 1, 0, 1);
        Due.is("a play of none, and of a MISFIT at once", x.play(), 1);
        Due.is("a play of none, and of a MISFIT at once: count(4)", x.count(4), 2);
        Due.is("takeBack()", x.takeBack(), 2);
        Due.frames("takeBack()", x, 1, 42, 46, 50);
    }

    private static void theBinIsEmptyAtFirst() {
        Due.sentence("It is empty at first");
        CuttingTable x = new CuttingTable();
        Due.is("count(4)", x.count(4), 0);
        Due.is("takeBack()", x.takeBack(), 0);
        Due.threadNumbers(x, 0, 0, 1, 2);
        Due.is("takeBack() with a reel", x.takeBack(), 0);
        Due.frames("takeBack() with a reel", x, 0, 1, 2);
    }

    /** 0 and 1 bear PICTURES, 2 PRINTS of one frame; the bin has two frames of the reel on 0. */
    private static CuttingTable withBin() {
        CuttingTable x = Due.withNumbers(0, 1, 2, 3, 4);
        x.thread(1, 0, 2);
        Due.threadShots(x, 2, 7, 2);
        x.splice(0, 0, 0, 1, 2);
        return x;
    }

    private static void theBinIsEmptyBehind() {
        Due.sentence("behind a put(), shoot(), open() or close() that is not refused, and behind takeBack()");
        for (int which = 0; which < 10; which++) {
            CuttingTable x = withBin();
            Due.is("the bin: count(4)", x.count(4), 2);
            switch (which) {
                case 0: x.put(0, 3, 4); break;
                case 1: x.put(1, 0, 0); break;
                case 2: x.shoot(2, 0, 2, 9); break;
                case 3: x.shoot(2, 0, 3, 9); break;
                case 4: x.open(1, 0, 1); break;
                case 5: x.open(0, 4, 0); break;
                case 6: x.close(1, 1, 1); break;
                case 7: x.close(0, 4, 0); break;
                case 8: x.close(0, 0, 0); break;
                default: x.takeBack(); break;
            }
            Due.is("behind call " + which + ": count(4)", x.count(4), 0);
            Due.is("behind call " + which + ": takeBack()", x.takeBack(), 0);
            Due.is("behind call " + which + ": at(0, 2)", x.at(0, 2), which == 9 ? 3 : 2);
        }
    }

    private static void theBinStaysBehindWhatIsRefused() {
        Due.sentence("that is not refused");
        CuttingTable x = withBin();
        x.tag(3, 1);
        for (int s : new int[] {8, 4, 3}) {
            x.put(s, 0, 1);
            x.shoot(s, 0, 0, 1);
            x.open(s, 0, 0);
            x.close(s, 0, 0);
        }
        x.put(2, 0, 1);
        x.put(0, 4, 1);
        x.shoot(0, 0, 3, 1);
        x.shoot(2, 0, 4, 1);
        x.shoot(2, 1, 2, 1);
        x.shoot(2, 0, 1, 1);
        x.open(0, 0, 5);
        x.open(0, -1, 0);
        x.close(0, 5, 0);
        x.close(0, 0, -1);
        Due.is("behind refused calls: count(4)", x.count(4), 2);
        Due.is("behind refused calls: takeBack()", x.takeBack(), 2);
        Due.frames("behind refused calls, takeBack()", x, 0, 1, 2, 3, 4);
    }

    private static void theBinStaysBehindOtherCalls() {
        Due.sentence("The BIN has what the latest splice in which a frame went overwrote");
        CuttingTable x = withBin();
        x.thread(4, 0, 4);
        x.tag(5, 1);
        x.share(0, 6);
        x.copy(0, 7);
        x.clear(5);
        x.note(0, 0, 0, 0, 1);
        x.refusal(0);
        x.look(0, 0);
        x.at(0, 0);
        x.alike(0, 7);
        Due.is("behind other calls: count(4)", x.count(4), 2);
        Due.is("behind other calls: takeBack()", x.takeBack(), 2);
        Due.frames("behind other calls, takeBack()", x, 0, 1, 2, 3, 4);
        Due.frames("behind other calls, takeBack()", x, 7, 1, 1, 2, 4);
    }

    private static void theListHasAtMost16() {
        Due.sentence("The LIST has at most 16 CUTS");
        CuttingTable x = Due.withNumbers(0, 1, 2);
        for (int i = 1; i <= 20; i++) {
            Due.is("note " + i, x.note(0, 0, 0, 1, 1), i <= 16 ? i : -1);
            Due.is("note " + i + ": count(3)", x.count(3), Math.min(i, 16));
        }
        Due.is("play of 16", x.play(), 16);
        Due.is("play of 16: count(3)", x.count(3), 0);
        Due.is("play of 16: count(1)", x.count(1), 16);
    }

    private static void cutsAreToBeDone() {
        Due.sentence("splices that are to be done");
        CuttingTable x = Due.withNumbers(0, 1, 2, 3);
        x.splice(0, 0, 0, 1, 1);
        x.note(0, 1, 0, 2, 1);
        Due.frames("note", x, 0, 1, 1, 3);
        Due.counts("note", x, 1, 1, 1, 1, 1, 0);
        Due.is("play", x.play(), 1);
        Due.frames("play", x, 0, 1, 1, 1);
        Due.counts("play", x, 1, 2, 2, 0, 1, 0);
    }
}
