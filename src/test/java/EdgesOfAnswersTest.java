/** Promises 16 to 20: the sentences that name a boundary case, one method a sentence. */
public final class EdgesOfAnswersTest {
    private static final int MAX = Integer.MAX_VALUE;
    private static final int MIN = Integer.MIN_VALUE;

    public static void main(String[] args) {
        refusalAheadOfAny();
        refusalOfTheLatestCall();
        refusalOfLoopAndPlay();
        wayOfFiveCallsAlone();
        framesAheadOfAMisfit();
        refusalOfAnotherWhat();
        refusalBehindOtherCalls();
        whatLiesThere();
        howManyFrames();
        theLowestSpindle();
        lookForNone();
        whatAFrameHas();
        atThrowsWithoutAReel();
        atThrowsWithoutAFrame();
        alikeReels();
        alikeFrameByFrame();
        alikeShots();
        alikeTagsAndNothing();
        alikeWithoutASpindle();
        countOfReels();
        countOfSplices();
        countOfFramesThatWent();
        countOfCutsAndTheBin();
        countOfShots();
        countOfAnotherWhat();
        Due.end();
    }

    private static void refusalAheadOfAny() {
        Due.sentence("All 0 ahead of any");
        CuttingTable x = new CuttingTable();
        Due.refusal("new", x, 0, 0, 0);
        x.note(9, 9, 9, 9, 9);
        x.takeBack();
        x.look(9, 9);
        x.count(9);
        x.alike(9, 9);
        Due.atThrows(x, 9, 9, 1);
        Due.refusal("behind none of those calls", x, 0, 0, 0);
    }

    /** 0 PICTURES of 2, 1 SHOTS (a plain one, nothing), 2 PRINTS of 2, 3 a tag. */
    private static CuttingTable table() {
        CuttingTable x = Due.withNumbers(0, 1, 2);
        Due.threadShots(x, 1, 5, 0, 3);
        x.thread(2, 7, 2);
        x.tag(3, 1);
        return x;
    }

    private static int call(CuttingTable x, int which, boolean fine) {
        switch (which) {
            case 0: return x.thread(5, 0, fine ? 1 : 25);
            case 1: return x.tag(fine ? 5 : 8, 1);
            case 2: return x.share(fine ? 5 : 8, 6);
            case 3: return x.copy(fine ? 0 : 8, 6);
            case 4: return x.clear(fine ? 6 : 8);
            case 5: return x.put(fine ? 0 : 8, 0, 1);
            case 6: return x.shoot(fine ? 1 : 8, 0, 0, 1);
            case 7: return x.splice(fine ? 0 : 8, 0, 0, 1, 1);
            case 8: return x.open(fine ? 0 : 8, 0, 1);
            case 9: return x.close(fine ? 0 : 8, 0, 1);
            case 10: return x.loop(fine ? 0 : 8, 0, 1, 1);
            default:
                x.note(fine ? 0 : 8, 0, 0, 1, 1);
                return x.play();
        }
    }

    /** A table whose latest call was an OUT, or a MISFIT behind a frame that went. */
    private static CuttingTable refusedTable(boolean out) {
        CuttingTable x = table();
        Due.threadShots(x, 4, 5, 3, 0);
        x.splice(4, 0, 2, 0, out ? 3 : 2);
        Due.refusal("the latest call", x, out ? 4 : 5, out ? 4 : 0, out ? 0 : 1);
        return x;
    }

    private static void refusalOfTheLatestCall() {
        Due.sentence("Of the latest call of thread(), tag(), share(), copy(), clear(), put(), shoot(), splice(),"
            + " open(), close(), loop() or play(): its refusal, 0 without one");
        for (int which = 0; which < 12; which++) {
            for (boolean out : new boolean[] {true, false}) {
                CuttingTable x = refusedTable(out);
                call(x, which, false);
                Due.refusal("call " + which + ", refused", x, 6, 0, 0);
                x = refusedTable(out);
                call(x, which, true);
                Due.refusal("call " + which + ", not refused", x, 0, 0, 0);
            }
        }
    }

    private static void refusalOfLoopAndPlay() {
        Due.sentence("(of loop() and play() that of the splice that was refused, or 6)");
        CuttingTable x = table();
        x.loop(4, 0, 1, 1);
        Due.refusal("loop of nothing", x, 1, 0, 0);
        x.loop(3, 0, 1, 1);
        Due.refusal("loop of a tag", x, 2, 0, 0);
        x.loop(0, 0, 1, 2);
        Due.refusal("loop, OUT at the second one", x, 4, 5, 0);
        x.loop(0, 0, 1, 21);
        Due.refusal("loop of 21 times", x, 6, 0, 0);
        x.loop(0, 0, 1, 1);
        Due.refusal("loop", x, 0, 0, 0);
        int[][] cuts = {{8, 0, 0, 0, 1, 6, 0}, {0, 0, -1, 0, 1, 6, 0}, {0, 0, 4, 0, 1, 1, 0}, {0, 0, 3, 0, 1, 2, 0},
            {0, 0, 1, 0, 1, 3, 0}, {0, -1, 0, 0, 1, 4, 1}, {0, 0, 0, -1, 1, 4, 2}, {0, 0, 0, 0, -1, 4, 3},
            {0, 2, 0, 0, 1, 4, 4}, {0, 0, 0, 2, 1, 4, 5}, {1, 0, 2, 0, 1, 5, 0}};
        for (int[] c : cuts) {
            x = table();
            x.note(0, 0, 0, 1, 1);
            x.note(c[0], c[1], c[2], c[3], c[4]);
            Due.is("play until " + c[5], x.play(), 1);
            Due.refusal("play until " + c[5], x, c[5], c[6], 0);
        }
    }

    private static void wayOfFiveCallsAlone() {
        Due.sentence("the WAY, if that is OUT and it was splice(), open(), close(), loop() or play(), else 0");
        CuttingTable x = table();
        x.splice(0, -1, 0, 0, 1);
        Due.refusal("splice", x, 4, 1, 0);
        x.put(0, -1, 1);
        Due.refusal("put", x, 4, 0, 0);
        x.open(0, 3, 0);
        Due.refusal("open", x, 4, 4, 0);
        x.shoot(1, 2, 0, 1);
        Due.refusal("shoot", x, 4, 0, 0);
        x.close(0, 1, -1);
        Due.refusal("close", x, 4, 3, 0);
        x.put(0, 2, 1);
        Due.refusal("put", x, 4, 0, 0);
        x.loop(0, 0, -1, 1);
        Due.refusal("loop", x, 4, 2, 0);
        x.shoot(1, -1, 3, 1);
        Due.refusal("shoot of nothing", x, 4, 0, 0);
        x.note(0, 0, 0, 1, 2);
        x.play();
        Due.refusal("play", x, 4, 5, 0);
        x.splice(0, 0, 1, -1, -1);
        Due.refusal("splice, UNLIKE", x, 3, 0, 0);
    }

    private static void framesAheadOfAMisfit() {
        Due.sentence("how many frames went ahead of a MISFIT of a splice, else 0 (what 2)");
        for (int ahead = 0; ahead < 24; ahead++) {
            CuttingTable x = new CuttingTable();
            x.thread(0, 5, 24);
            x.thread(1, 6, 24);
            x.shoot(0, ahead, 0, 1);
            x.splice(0, 0, 1, 0, 24);
            Due.refusal("splice, MISFIT behind " + ahead, x, 5, 0, ahead);
            x.note(0, 0, 1, 0, 24);
            Due.is("play", x.play(), 0);
            Due.refusal("play, MISFIT behind " + ahead, x, 5, 0, ahead);
            x.shoot(1, 0, 0, 1);
            Due.refusal("shoot, MISFIT", x, 5, 0, 0);
            x.splice(0, 0, 1, 0, 24);
            Due.is("splice of those ahead alone", x.splice(0, 0, 1, 0, ahead), ahead);
            Due.refusal("splice of those ahead alone", x, 0, 0, 0);
        }
    }

    private static void refusalOfAnotherWhat() {
        Due.sentence("NONE for another what");
        CuttingTable x = table();
        x.splice(0, 0, 0, 2, 1);
        for (int what : new int[] {MIN, -1, 3, 4, 5, 256, MAX}) {
            Due.is("refusal(" + what + ")", x.refusal(what), -1);
        }
        Due.refusal("behind them", x, 4, 5, 0);
    }

    private static void refusalBehindOtherCalls() {
        Due.sentence("Of the latest call of thread() .. or play()");
        CuttingTable x = new CuttingTable();
        Due.threadShots(x, 0, 5, 1, 0);
        x.thread(1, 6, 2);
        x.splice(0, 0, 1, 0, 2);
        Due.refusal("MISFIT", x, 5, 0, 1);
        x.note(0, 0, 0, 0, 0);
        Due.refusal("note", x, 5, 0, 1);
        x.takeBack();
        Due.refusal("takeBack", x, 5, 0, 1);
        x.takeBack();
        x.look(0, 0);
        x.at(0, 0);
        Due.atThrows(x, 0, 2, 2);
        x.alike(0, 1);
        x.count(0);
        Due.refusal("looking", x, 5, 0, 1);
    }

    private static void whatLiesThere() {
        Due.sentence("what lies there: NONE nothing, the stock of a reel, 8 a tag (what 0)");
        CuttingTable x = new CuttingTable();
        for (int s = 0; s < 8; s++) {
            Due.is("look(" + s + ", 0) of nothing", x.look(s, 0), -1);
            for (int stock = 0; stock < 8; stock++) {
                x.thread(s, stock, 0);
                Due.is("look(" + s + ", 0) of stock " + stock, x.look(s, 0), stock);
            }
            x.tag(s, 3);
            Due.is("look(" + s + ", 0) of a tag", x.look(s, 0), 8);
        }
    }

    private static void howManyFrames() {
        Due.sentence("how many frames the reel has, the tag's number, NONE for nothing (what 1)");
        CuttingTable x = new CuttingTable();
        Due.is("look(5, 1) of nothing", x.look(5, 1), -1);
        for (int frames = 0; frames <= 24; frames++) {
            x.thread(5, frames % 8, frames);
            Due.is("look(5, 1) of " + frames, x.look(5, 1), frames);
        }
        for (int number : new int[] {MIN, -1, 0, 24, 25, MAX}) {
            x.tag(5, number);
            Due.is("look(5, 1) of the tag " + number, x.look(5, 1), number);
        }
    }

    private static void theLowestSpindle() {
        Due.sentence("the lowest spindle on which the very same lies, NONE for nothing (what 2)");
        for (int low = 0; low < 8; low++) {
            for (int high = low; high < 8; high++) {
                CuttingTable x = new CuttingTable();
                x.thread(high, 0, 0);
                x.share(high, low);
                Due.is("look(" + high + ", 2) of a reel on " + low, x.look(high, 2), low);
                x.copy(high, high);
                Due.is("look(" + high + ", 2) of its copy", x.look(high, 2), high);
                x.tag(high, 6);
                x.share(high, low);
                Due.is("look(" + high + ", 2) of a tag on " + low, x.look(high, 2), low);
                x.tag(high, 6);
                Due.is("look(" + high + ", 2) of another tag", x.look(high, 2), high);
                x.clear(high);
                Due.is("look(" + high + ", 2) of nothing", x.look(high, 2), -1);
            }
        }
    }

    private static void lookForNone() {
        Due.sentence("NONE for no such spindle, or another what");
        CuttingTable x = table();
        for (int what = -1; what < 5; what++) {
            for (int s : new int[] {MIN, -1, 8, 9, MAX}) {
                Due.is("look(" + s + ", " + what + ")", x.look(s, what), -1);
            }
        }
        for (int what : new int[] {MIN, -1, 3, 4, 256, MAX}) {
            for (int s = 0; s < 8; s++) {
                Due.is("look(" + s + ", " + what + ")", x.look(s, what), -1);
            }
        }
    }

    private static void whatAFrameHas() {
        Due.sentence("What a frame has: its number; of a shot 4 times its number, and its kind; -1 for nothing");
        CuttingTable x = Due.withNumbers(1, Long.MIN_VALUE, -1, 0, Long.MAX_VALUE);
        Due.frames("numbers", x, 0, Long.MIN_VALUE, -1, 0, Long.MAX_VALUE);
        x.thread(1, 5, 8);
        x.shoot(1, 0, 0, MIN);
        x.shoot(1, 1, 1, MIN);
        x.shoot(1, 2, 2, -1);
        x.shoot(1, 3, 0, 0);
        x.shoot(1, 4, 1, 0);
        x.shoot(1, 5, 2, MAX);
        x.shoot(1, 6, 0, 1 << 30);
        Due.frames("shots", x, 1, -8589934592L, -8589934591L, -2, 0, 1, 8589934590L, 4294967296L, -1);
    }

    private static void atThrowsWithoutAReel() {
        Due.sentence("IllegalStateException: no such spindle, or no reel lies there");
        CuttingTable x = table();
        x.tag(4, 24);
        for (int frame : new int[] {MIN, -1, 0, 1, 23, 24, MAX}) {
            for (int s : new int[] {MIN, -1, 3, 4, 5, 7, 8, MAX}) {
                Due.atThrows(x, s, frame, 1);
            }
        }
        x.clear(0);
        Due.atThrows(x, 0, 0, 1);
    }

    private static void atThrowsWithoutAFrame() {
        Due.sentence("IndexOutOfBoundsException: the reel has no such frame");
        for (int stock = 0; stock < 8; stock++) {
            for (int frames = 0; frames <= 24; frames += 6) {
                CuttingTable x = new CuttingTable();
                x.thread(0, stock, frames);
                for (int frame : new int[] {MIN, -1, frames, frames + 1, 25, MAX}) {
                    Due.atThrows(x, 0, frame, 2);
                }
                for (int frame = 0; frame < frames; frame++) {
                    Due.atThrows(x, 0, frame, 0);
                }
            }
        }
    }

    private static void alike(String call, CuttingTable x, int one, int two, boolean want) {
        Due.is(call, x.alike(one, two), want);
        Due.is(call + ", the other way round", x.alike(two, one), want);
    }

    private static void alikeReels() {
        Due.sentence("Whether reels of one stock lie on two spindles, with as many frames");
        for (int stock = 0; stock < 8; stock++) {
            for (int other = 0; other < 8; other++) {
                CuttingTable x = new CuttingTable();
                x.thread(0, stock, 2);
                x.thread(1, other, 2);
                alike("stocks " + stock + " and " + other, x, 0, 1, stock == other);
                x.thread(0, stock, 0);
                x.thread(1, other, 0);
                alike("no frames, stocks " + stock + " and " + other, x, 0, 1, stock == other);
            }
        }
        for (int frames = 0; frames <= 24; frames++) {
            CuttingTable x = new CuttingTable();
            x.thread(0, 1, frames);
            x.thread(1, 1, 24 - frames);
            alike(frames + " frames and " + (24 - frames), x, 0, 1, frames == 12);
        }
    }

    private static void alikeFrameByFrame() {
        Due.sentence("that have the same numbers");
        for (int stock = 0; stock < 5; stock++) {
            for (int frame = 0; frame < 24; frame++) {
                CuttingTable x = new CuttingTable();
                x.thread(0, stock, 24);
                x.thread(1, stock, 24);
                x.put(0, frame, 1);
                alike("stock " + stock + ", another number at " + frame, x, 0, 1, false);
                x.put(1, frame, 1);
                alike("stock " + stock + ", the same numbers", x, 0, 1, true);
            }
        }
        CuttingTable x = Due.withNumbers(1, 1L << 32);
        Due.threadNumbers(x, 1, 1, 0);
        alike("numbers with the same lowest bits", x, 0, 1, false);
        Due.threadNumbers(x, 0, 0, 1L << 32);
        Due.threadNumbers(x, 1, 0, 0);
        alike("numbers that became the same", x, 0, 1, true);
    }

    private static void alikeShots() {
        Due.sentence("or the very same shots or nothing");
        for (int frame = 0; frame < 24; frame++) {
            CuttingTable x = new CuttingTable();
            x.thread(0, 7, 24);
            x.thread(1, 7, 24);
            alike("nothing on both", x, 0, 1, true);
            x.shoot(0, frame, 2, 5);
            alike("a shot and nothing at " + frame, x, 0, 1, false);
            x.shoot(1, frame, 2, 5);
            alike("two shots of one number at " + frame, x, 0, 1, false);
            x.splice(0, frame, 1, frame, 1);
            alike("the very same shot at " + frame, x, 0, 1, true);
        }
    }

    private static void alikeTagsAndNothing() {
        Due.sentence("or tags with one number; or nothing on both");
        int[] numbers = {MIN, -1, 0, 1, MAX};
        for (int one : numbers) {
            for (int two : numbers) {
                CuttingTable x = new CuttingTable();
                x.tag(0, one);
                x.tag(1, two);
                alike("tags " + one + " and " + two, x, 0, 1, one == two);
                alike("a tag and nothing", x, 0, 2, false);
                x.thread(3, 0, Math.max(0, Math.min(one, 24)));
                alike("a tag and a reel", x, 0, 3, false);
                alike("nothing and a reel", x, 2, 3, false);
                alike("nothing on both", x, 2, 4, true);
                alike("nothing on one spindle", x, 2, 2, true);
                alike("a tag on one spindle", x, 0, 0, true);
                alike("a reel on one spindle", x, 3, 3, true);
            }
        }
    }

    private static void alikeWithoutASpindle() {
        Due.sentence("False when there is no such spindle");
        CuttingTable x = table();
        int[] none = {MIN, -1, 8, MAX};
        for (int bad : none) {
            for (int s = 0; s < 8; s++) {
                alike("alike(" + bad + ", " + s + ")", x, bad, s, false);
            }
            for (int other : none) {
                alike("alike(" + bad + ", " + other + ")", x, bad, other, false);
            }
        }
    }

    private static void countOfReels() {
        Due.sentence("0 reels that were made (by thread() and copy())");
        CuttingTable x = new CuttingTable();
        x.tag(7, 1);
        for (int i = 1; i <= 20; i++) {
            x.thread(0, 0, i);
            x.copy(0, i % 7);
            x.share(0, 6);
            x.clear(6);
            x.thread(8, 0, 1);
            x.thread(0, 0, 25);
            x.copy(7, 0);
            x.copy(6, 0);
            x.copy(0, 8);
            Due.is("round " + i + ": count(0)", x.count(0), 2 * i);
        }
    }

    private static void countOfSplices() {
        Due.sentence("1 splices that were not refused (also of loop() and play())");
        CuttingTable x = table();
        x.splice(0, 0, 0, 1, 1);
        x.splice(0, 0, 0, 0, 0);
        Due.is("two splices: count(1)", x.count(1), 2);
        x.splice(0, 0, 0, 2, 1);
        x.splice(1, 0, 2, 0, 1);
        x.splice(1, 1, 2, 0, 9);
        Due.is("and refused ones: count(1)", x.count(1), 2);
        x.loop(0, 0, 1, 20);
        Due.is("and a loop of one: count(1)", x.count(1), 3);
        x.loop(0, 2, 0, 20);
        Due.is("and a loop of twenty: count(1)", x.count(1), 23);
        x.note(0, 0, 0, 0, 0);
        x.note(0, 0, 0, 0, 1);
        x.note(0, 0, 0, 2, 1);
        x.note(0, 0, 0, 0, 1);
        Due.is("note: count(1)", x.count(1), 23);
        x.play();
        x.play();
        Due.is("and a play of two: count(1)", x.count(1), 25);
        x.takeBack();
        Due.is("takeBack: count(1)", x.count(1), 25);
    }

    private static void countOfFramesThatWent() {
        Due.sentence("2 frames that went by splices (those ahead of a MISFIT, too)");
        CuttingTable x = new CuttingTable();
        Due.threadShots(x, 0, 5, 2, 3, 0);
        x.thread(1, 7, 6);
        x.splice(0, 0, 1, 0, 3);
        Due.is("a MISFIT: count(2)", x.count(2), 2);
        x.splice(0, 2, 1, 0, 1);
        Due.is("a MISFIT at once: count(2)", x.count(2), 2);
        x.splice(0, 0, 1, 4, 3);
        Due.is("an OUT: count(2)", x.count(2), 2);
        x.loop(1, 0, 2, 20);
        Due.is("a loop of two: count(2)", x.count(2), 6);
        x.note(0, 0, 0, 0, 3);
        x.note(0, 0, 1, 0, 3);
        x.play();
        Due.is("a play with a MISFIT: count(2)", x.count(2), 11);
        x.takeBack();
        x.open(1, 0, 1);
        x.close(1, 0, 1);
        x.copy(1, 2);
        Due.is("behind takeBack, open, close, copy: count(2)", x.count(2), 11);
    }

    private static void countOfCutsAndTheBin() {
        Due.sentence("3 cuts of the list, 4 frames that the bin has");
        CuttingTable x = Due.withNumbers(0, 1, 2, 3);
        Due.counts("at first", x, 1, 0, 0, 0, 0, 0);
        for (int i = 1; i <= 18; i++) {
            x.note(0, 0, 0, 0, i == 4 ? 9 : 2);
            Due.is("note " + i + ": count(3)", x.count(3), Math.min(i, 16));
        }
        x.play();
        Due.is("play: count(3)", x.count(3), 13);
        Due.is("play: count(4)", x.count(4), 2);
        x.splice(0, 0, 0, 0, 3);
        Due.is("splice: count(4)", x.count(4), 3);
        x.takeBack();
        Due.is("takeBack: count(4)", x.count(4), 0);
        Due.is("takeBack: count(3)", x.count(3), 13);
    }

    private static void countOfShots() {
        Due.sentence("5 shots that were made (also by a shoot() that is OUT or a MISFIT; by none that is refused ahead"
            + " of these)");
        for (int kind = 0; kind < 4; kind++) {
            CuttingTable x = table();
            int made = kind < 3 ? 1 : 0;
            int ahead = x.count(5);
            x.shoot(1, 0, kind, 1);
            Due.is("shoot of kind " + kind, x.count(5), ahead + made);
            x.shoot(1, 2, kind, 1);
            Due.is("shoot of kind " + kind + ", OUT", x.count(5), ahead + 2 * made);
            x.shoot(2, 0, kind, 1);
            Due.is("shoot of kind " + kind + ", MISFIT or not", x.count(5), ahead + 3 * made);
            x.shoot(2, -1, kind, 1);
            Due.is("shoot of kind " + kind + ", OUT and no fit", x.count(5), ahead + 4 * made);
            for (int s : new int[] {-1, 8, 0, 3, 4}) {
                x.shoot(s, 0, kind, 1);
                x.shoot(s, 9, kind, 1);
                Due.is("shoot of kind " + kind + ", refused ahead", x.count(5), ahead + 4 * made);
            }
            x.shoot(1, 0, kind + 4, 1);
            x.shoot(1, 0, -1 - kind, 1);
            Due.is("shoot of no kind", x.count(5), ahead + 4 * made);
        }
    }

    private static void countOfAnotherWhat() {
        Due.sentence("NONE for another what");
        CuttingTable x = table();
        for (int what : new int[] {MIN, -1, 6, 7, 8, 256, MAX}) {
            Due.is("count(" + what + ")", x.count(what), -1);
        }
    }
}
