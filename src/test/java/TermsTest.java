/** The sentences of the document's 'Terms' that name a bound, an order or a boundary case: one method a sentence. */
public final class TermsTest {
    private static final int MAX = Integer.MAX_VALUE;
    private static final int MIN = Integer.MIN_VALUE;
    private static final int[] NO_SPINDLES = {-1, 8, MIN, MAX, 256, 1 << 16};

    public static void main(String[] args) {
        refusalsAreToldApart();
        takesKeepWhatWentAhead();
        picturesHave32Bits();
        clocksHave64Bits();
        soundHas16BitsWithSign();
        lettersHave16BitsWithoutSign();
        marksAre0And1();
        thereAreEightStocks();
        stocks0To4AreOfNumbers();
        aReelHas0To24Frames();
        framesAreNumberedFrom0();
        aShotsNumberIsAnInt();
        aPrintIsATake();
        framesBearTheirShots();
        eachBearsNothing();
        blankIs0OrNothing();
        theVerySameShot();
        spindlesAre0To7();
        aTagIsNoReel();
        oneMayLieOnSeveral();
        constants();
        Due.end();
    }

    private static void refusalsAreToldApart() {
        Due.sentence("Each refusal is told apart");
        CuttingTable x = new CuttingTable();
        Due.threadShots(x, 0, 5, 0, 0);
        x.thread(1, 6, 2);
        x.thread(2, 0, 2);
        x.tag(3, 1);
        int[][] calls = {{4, 0, -1}, {3, 0, -2}, {2, 0, -3}, {1, 1, -4}, {1, 0, -5}, {8, 0, -6}};
        for (int[] c : calls) {
            Due.is("splice(0, 0, " + c[0] + ", " + c[1] + ", 2)", x.splice(0, 0, c[0], c[1], 2), c[2]);
            Due.is("refusal(0)", x.refusal(0), -c[2]);
        }
    }

    /** The first shot that does not go stands at each place of a reel, the first and the last too. */
    private static void takesKeepWhatWentAhead() {
        Due.sentence("a reel of takes into which a shot does not go keeps the frames that went ahead of it");
        for (int misfit = 0; misfit < 24; misfit++) {
            CuttingTable x = new CuttingTable();
            x.thread(0, 5, 24);
            x.thread(1, 6, 24);
            for (int i = 0; i < 24; i++) {
                x.shoot(0, i, i == misfit ? 0 : 1 + i % 2, i);
                x.shoot(1, i, 1, 100 + i);
            }
            Due.is("a MISFIT at " + misfit, x.splice(0, 0, 1, 0, 24), -5);
            Due.refusal("a MISFIT at " + misfit, x, 5, 0, misfit);
            for (int i = 0; i < 24; i++) {
                long due = i < misfit ? 4 * i + 1 + i % 2 : 4 * (100 + i) + 1;
                Due.is("a MISFIT at " + misfit + ": at(1, " + i + ")", x.at(1, i), due);
            }
            Due.is("a MISFIT at " + misfit + ": count(2)", x.count(2), misfit);
            Due.is("a MISFIT at " + misfit + ": count(4)", x.count(4), misfit);
            Due.is("a MISFIT at " + misfit + ": count(1)", x.count(1), 0);
        }
    }

    /** Numbers stay as they are on every way that they can go. */
    private static void goesAsItIs(int stock, long... numbers) {
        for (long number : numbers) {
            CuttingTable x = Due.withNumbers(stock, number, 0, 0, 0);
            String what = number + " of stock " + stock;
            Due.frames("put " + what, x, 0, number, 0, 0, 0);
            x.splice(0, 0, 0, 1, 1);
            Due.frames("splice " + what, x, 0, number, number, 0, 0);
            x.loop(0, 1, 1, 2);
            Due.frames("loop " + what, x, 0, number, number, number, number);
            x.copy(0, 1);
            x.close(1, 0, 2);
            Due.frames("close " + what, x, 1, number, number, 0, 0);
            x.open(1, 0, 1);
            Due.frames("open " + what, x, 1, 0, number, number, 0);
            x.splice(1, 0, 1, 1, 1);
            x.takeBack();
            Due.frames("takeBack " + what, x, 1, 0, number, number, 0);
        }
    }

    private static void becomes(int stock, long value, long want) {
        CuttingTable x = new CuttingTable();
        x.thread(0, stock, 3);
        Due.is("put(0, 1, " + value + ")", x.put(0, 1, value), 0);
        Due.frames("put(0, 1, " + value + ")", x, 0, 0, want, 0);
    }

    private static void picturesHave32Bits() {
        Due.sentence("0 PICTURES (numbers of 32 bits with sign)");
        goesAsItIs(0, MIN, MIN + 1, -1, 1, 65536, MAX - 1, MAX);
        becomes(0, MAX + 1L, MIN);
        becomes(0, MIN - 1L, MAX);
        becomes(0, 0xFFFFFFFFL, -1);
        becomes(0, 1L << 32, 0);
        becomes(0, Long.MAX_VALUE, -1);
        becomes(0, Long.MIN_VALUE, 0);
    }

    private static void clocksHave64Bits() {
        Due.sentence("1 CLOCKS (of 64)");
        goesAsItIs(1, Long.MIN_VALUE, Long.MIN_VALUE + 1, MIN - 1L, -1, 1, MAX + 1L, 1L << 32, 1L << 62,
            Long.MAX_VALUE - 1, Long.MAX_VALUE);
    }

    private static void soundHas16BitsWithSign() {
        Due.sentence("2 SOUND (of 16 with sign)");
        goesAsItIs(2, -32768, -32767, -1, 1, 255, 256, 32766, 32767);
        becomes(2, 32768, -32768);
        becomes(2, -32769, 32767);
        becomes(2, 65535, -1);
        becomes(2, 65536, 0);
        becomes(2, MIN, 0);
        becomes(2, Long.MAX_VALUE, -1);
        becomes(2, Long.MIN_VALUE, 0);
    }

    private static void lettersHave16BitsWithoutSign() {
        Due.sentence("3 LETTERS (0 .. 65535)");
        goesAsItIs(3, 1, 127, 128, 255, 256, 32767, 32768, 65534, 65535);
        becomes(3, -1, 65535);
        becomes(3, -65535, 1);
        becomes(3, 65536, 0);
        becomes(3, 65537, 1);
        becomes(3, Long.MAX_VALUE, 65535);
        becomes(3, Long.MIN_VALUE, 0);
    }

    private static void marksAre0And1() {
        Due.sentence("4 MARKS (0, 1)");
        goesAsItIs(4, 0, 1);
        for (long value : new long[] {-1, 2, 256, 65536, MIN, 1L << 32, 1L << 63, Long.MAX_VALUE}) {
            becomes(4, value, 1);
        }
    }

    private static void thereAreEightStocks() {
        Due.sentence("STOCKS: 0 PICTURES .. 7 PRINTS");
        for (int stock = -2; stock < 11; stock++) {
            CuttingTable x = new CuttingTable();
            boolean is = stock >= 0 && stock <= 7;
            Due.is("thread(0, " + stock + ", 1)", x.thread(0, stock, 1), is ? 0 : 6);
            Due.is("thread(0, " + stock + ", 1): look(0, 0)", x.look(0, 0), is ? stock : -1);
            Due.is("thread(0, " + stock + ", 1): count(0)", x.count(0), is ? 1 : 0);
        }
    }

    private static void stocks0To4AreOfNumbers() {
        Due.sentence("0 to 4 are stocks of NUMBERS");
        for (int stock = 0; stock < 8; stock++) {
            CuttingTable x = new CuttingTable();
            x.thread(0, stock, 1);
            Due.is("put into stock " + stock, x.put(0, 0, 1), stock <= 4 ? 0 : 3);
            Due.is("shoot into stock " + stock, x.shoot(0, 0, 2, 1), stock <= 4 ? 3 : 0);
            Due.is("at of stock " + stock, x.at(0, 0), stock <= 4 ? 1 : 6);
        }
    }

    private static void aReelHas0To24Frames() {
        Due.sentence("A REEL is of a STOCK and has 0 .. 24 FRAMES");
        for (int stock = 0; stock < 8; stock++) {
            for (int frames = -2; frames < 28; frames++) {
                CuttingTable x = new CuttingTable();
                boolean has = frames >= 0 && frames <= 24;
                String call = "thread(3, " + stock + ", " + frames + ")";
                Due.is(call, x.thread(3, stock, frames), has ? 0 : 6);
                Due.is(call + ": look(3, 0)", x.look(3, 0), has ? stock : -1);
                Due.is(call + ": look(3, 1)", x.look(3, 1), has ? frames : -1);
            }
        }
    }

    private static void framesAreNumberedFrom0() {
        Due.sentence("numbered from 0 on");
        for (int frames = 0; frames < 25; frames++) {
            CuttingTable x = new CuttingTable();
            x.thread(0, 1, frames);
            x.thread(1, 5, frames);
            for (int at = -1; at <= frames; at++) {
                boolean is = at >= 0 && at < frames;
                Due.is("put(0, " + at + ", 7) of " + frames, x.put(0, at, 7 + at), is ? 0 : 4);
                Due.is("shoot(1, " + at + ", 0, 7) of " + frames, x.shoot(1, at, 0, 7 + at), is ? 0 : 4);
                Due.atThrows(x, 0, at, is ? 0 : 2);
                Due.atThrows(x, 1, at, is ? 0 : 2);
            }
            for (int at = 0; at < frames; at++) {
                Due.is("at(0, " + at + ") of " + frames, x.at(0, at), 7 + at);
                Due.is("at(1, " + at + ") of " + frames, x.at(1, at), 4 * (7 + at));
            }
        }
    }

    private static void aShotsNumberIsAnInt() {
        Due.sentence("A shot has a number (an int) and a KIND");
        for (int number : new int[] {MIN, MIN + 1, -65536, -1, 0, 1, 65536, 1 << 29, 1 << 30, MAX - 1, MAX}) {
            for (int kind = 0; kind < 3; kind++) {
                CuttingTable x = new CuttingTable();
                x.thread(0, 5 + kind, 2);
                Due.is("shoot(0, 1, " + kind + ", " + number + ")", x.shoot(0, 1, kind, number), 0);
                Due.frames("shoot(0, 1, " + kind + ", " + number + ")", x, 0, -1, 4L * number + kind);
                x.thread(1, 5, 2);
                x.splice(0, 0, 1, 0, 2);
                Due.frames("splice of it", x, 1, -1, 4L * number + kind);
            }
        }
    }

    private static void aPrintIsATake() {
        Due.sentence("2 a PRINT, which is a TAKE, too");
        CuttingTable x = new CuttingTable();
        x.thread(0, 6, 2);
        Due.is("shoot of a print into TAKES", x.shoot(0, 0, 2, 5), 0);
        Due.threadShots(x, 1, 7, 2);
        Due.is("splice of a print into TAKES", x.splice(1, 0, 0, 1, 1), 1);
        Due.frames("prints on a reel of TAKES", x, 0, 22, 42);
        x.thread(2, 7, 2);
        Due.is("splice of them from TAKES into PRINTS", x.splice(0, 0, 2, 0, 2), 2);
        Due.frames("from TAKES into PRINTS", x, 2, 22, 42);
    }

    private static void framesBearTheirShots() {
        Due.sentence("A frame of SHOTS bears all shots, of TAKES takes (prints, too), of PRINTS prints");
        boolean[][] bears = {{true, true, true}, {false, true, true}, {false, false, true}};
        for (int stock = 5; stock < 8; stock++) {
            for (int kind = 0; kind < 3; kind++) {
                CuttingTable x = new CuttingTable();
                boolean borne = bears[stock - 5][kind];
                x.thread(0, stock, 1);
                Due.is("shoot of kind " + kind + " into stock " + stock, x.shoot(0, 0, kind, 1), borne ? 0 : 5);
                Due.threadShots(x, 1, 5, kind);
                x.thread(2, stock, 1);
                Due.is("splice of kind " + kind + " into stock " + stock, x.splice(1, 0, 2, 0, 1), borne ? 1 : -5);
                Due.frames("kind " + kind + " on stock " + stock, x, 2, borne ? 40 + kind : -1);
            }
        }
    }

    private static void eachBearsNothing() {
        Due.sentence("each bears nothing");
        for (int stock = 5; stock < 8; stock++) {
            for (int source = 5; source < 8; source++) {
                CuttingTable x = new CuttingTable();
                Due.threadShots(x, 0, stock, 2, 2);
                Due.is("shoot of nothing", x.shoot(0, 0, 3, 1), 0);
                Due.frames("shoot of nothing into stock " + stock, x, 0, -1, 46);
                x.thread(1, source, 2);
                Due.is("splice of nothing from " + source + " into " + stock, x.splice(1, 0, 0, 0, 2), 2);
                Due.frames("splice of nothing from " + source + " into " + stock, x, 0, -1, -1);
            }
        }
    }

    private static void blankIs0OrNothing() {
        Due.sentence("BLANK is 0, or nothing");
        for (int stock = 0; stock < 8; stock++) {
            long blank = stock < 5 ? 0 : -1;
            CuttingTable x = new CuttingTable();
            x.thread(0, stock, 2);
            Due.frames("thread of stock " + stock, x, 0, blank, blank);
            fill(x, stock);
            x.open(0, 0, 1);
            Due.is("open of stock " + stock, x.at(0, 0), blank);
            fill(x, stock);
            x.close(0, 0, 1);
            Due.is("close of stock " + stock, x.at(0, 1), blank);
        }
    }

    private static void fill(CuttingTable x, int stock) {
        for (int i = 0; i < 2; i++) {
            int refused = stock < 5 ? x.put(0, i, 1) : x.shoot(0, i, 2, 1);
            Due.is("a frame of stock " + stock, refused, 0);
        }
    }

    private static void theVerySameShot() {
        Due.sentence("A frame that gets what another one has, has the very same shot then");
        CuttingTable x = new CuttingTable();
        Due.threadShots(x, 0, 5, 2, 2);
        x.shoot(0, 1, 2, 10);
        x.thread(1, 5, 2);
        x.splice(0, 0, 1, 0, 1);
        x.splice(0, 0, 1, 1, 1);
        Due.frames("one shot twice, beside two shots of one number", x, 1, 42, 42);
        Due.frames("two shots of one number", x, 0, 42, 42);
        Due.is("one shot twice, beside two shots of one number: alike", x.alike(0, 1), false);
        x.splice(0, 1, 1, 1, 1);
        Due.is("the very same two shots: alike", x.alike(0, 1), true);
        x.splice(0, 1, 1, 0, 1);
        x.splice(0, 0, 1, 1, 1);
        Due.is("the same two shots the other way round: alike", x.alike(0, 1), false);
        x.thread(2, 7, 2);
        x.splice(1, 0, 2, 0, 2);
        x.thread(3, 5, 2);
        x.splice(2, 1, 3, 0, 1);
        x.splice(2, 0, 3, 1, 1);
        Due.is("over a reel of PRINTS and back: alike", x.alike(0, 3), true);
        Due.is("shots that were made", x.count(5), 3);
    }

    private static void spindlesAre0To7() {
        Due.sentence("SPINDLES 0 .. 7");
        CuttingTable x = new CuttingTable();
        for (int s = 0; s < 8; s++) {
            Due.is("thread(" + s + ", 0, 1)", x.thread(s, 0, 1), 0);
            Due.is("put(" + s + ", 0, 1)", x.put(s, 0, s), 0);
            Due.is("look(" + s + ", 2)", x.look(s, 2), s);
        }
        for (int s = 0; s < 8; s++) {
            Due.is("at(" + s + ", 0)", x.at(s, 0), s);
            Due.is("splice to " + s, x.splice(7, 0, s, 0, 1), 1);
            Due.is("splice from " + s, x.splice(s, 0, 7, 0, 1), 1);
            Due.is("open(" + s + ", 0, 1)", x.open(s, 0, 1), 0);
            Due.is("close(" + s + ", 0, 1)", x.close(s, 0, 1), 0);
            Due.is("loop(" + s + ", 0, 0, 1)", x.loop(s, 0, 0, 1), 1);
            Due.is("copy(" + s + ", " + s + ")", x.copy(s, s), 0);
            Due.is("share(" + s + ", " + s + ")", x.share(s, s), 0);
            Due.is("thread(" + s + ", 5, 1)", x.thread(s, 5, 1), 0);
            Due.is("shoot(" + s + ", 0, 0, 1)", x.shoot(s, 0, 0, 1), 0);
            Due.is("alike(" + s + ", " + s + ")", x.alike(s, s), true);
            Due.is("tag(" + s + ", 1)", x.tag(s, 1), 0);
            Due.is("clear(" + s + ")", x.clear(s), 0);
        }
        for (int s : NO_SPINDLES) {
            noSpindle(s);
        }
    }

    private static void noSpindle(int s) {
        CuttingTable x = new CuttingTable();
        x.thread(0, 0, 1);
        x.thread(7, 5, 1);
        Due.is("thread(" + s + ", 0, 1)", x.thread(s, 0, 1), 6);
        Due.is("tag(" + s + ", 1)", x.tag(s, 1), 6);
        Due.is("share(" + s + ", 0)", x.share(s, 0), 6);
        Due.is("share(0, " + s + ")", x.share(0, s), 6);
        Due.is("copy(" + s + ", 0)", x.copy(s, 0), 6);
        Due.is("copy(0, " + s + ")", x.copy(0, s), 6);
        Due.is("clear(" + s + ")", x.clear(s), 6);
        Due.is("put(" + s + ", 0, 1)", x.put(s, 0, 1), 6);
        Due.is("shoot(" + s + ", 0, 0, 1)", x.shoot(s, 0, 0, 1), 6);
        Due.is("splice(" + s + ", 0, 0, 0, 1)", x.splice(s, 0, 0, 0, 1), -6);
        Due.is("splice(0, 0, " + s + ", 0, 1)", x.splice(0, 0, s, 0, 1), -6);
        Due.is("open(" + s + ", 0, 1)", x.open(s, 0, 1), -6);
        Due.is("close(" + s + ", 0, 1)", x.close(s, 0, 1), -6);
        Due.is("loop(" + s + ", 0, 1, 1)", x.loop(s, 0, 1, 1), -6);
        Due.is("loop(" + s + ", 0, 1, 0)", x.loop(s, 0, 1, 0), -6);
        for (int what = 0; what < 3; what++) {
            Due.is("look(" + s + ", " + what + ")", x.look(s, what), -1);
        }
        Due.is("alike(" + s + ", 0)", x.alike(s, 0), false);
        Due.is("alike(0, " + s + ")", x.alike(0, s), false);
        Due.is("alike(" + s + ", " + s + ")", x.alike(s, s), false);
        Due.atThrows(x, s, 0, 1);
        Due.counts("no spindle " + s, x, 2, 0, 0, 0, 0, 0);
    }

    private static void aTagIsNoReel() {
        Due.sentence("a TAG (a number), which is no reel");
        CuttingTable x = Due.withNumbers(0, 1);
        x.tag(1, 0);
        Due.is("copy of a tag", x.copy(1, 2), 2);
        Due.is("put on a tag", x.put(1, 0, 1), 2);
        Due.is("shoot on a tag", x.shoot(1, 0, 0, 1), 2);
        Due.is("splice from a tag", x.splice(1, 0, 0, 0, 0), -2);
        Due.is("splice to a tag", x.splice(0, 0, 1, 0, 0), -2);
        Due.is("open of a tag", x.open(1, 0, 0), -2);
        Due.is("close of a tag", x.close(1, 0, 0), -2);
        Due.is("loop of a tag", x.loop(1, 0, 0, 1), 0);
        Due.is("loop of a tag: refusal(0)", x.refusal(0), 2);
        Due.atThrows(x, 1, 0, 1);
        Due.is("a tag is none of the reels made", x.count(0), 1);
    }

    private static void oneMayLieOnSeveral() {
        Due.sentence("One reel, or tag, may lie on several spindles");
        CuttingTable x = new CuttingTable();
        x.thread(7, 1, 2);
        for (int s = 6; s >= 0; s--) {
            x.share(s + 1, s);
        }
        for (int s = 0; s < 8; s++) {
            Due.is("put(" + s + ", 1, " + s + ")", x.put(s, 1, s), 0);
            for (int other = 0; other < 8; other++) {
                Due.is("at(" + other + ", 1)", x.at(other, 1), s);
            }
            Due.is("look(" + s + ", 2)", x.look(s, 2), 0);
        }
        Due.is("one reel on all: count(0)", x.count(0), 1);
        x.tag(7, -5);
        for (int s = 6; s >= 0; s--) {
            x.share(s + 1, s);
        }
        for (int s = 0; s < 8; s++) {
            Due.is("one tag on all: look(" + s + ", 1)", x.look(s, 1), -5);
            Due.is("one tag on all: look(" + s + ", 2)", x.look(s, 2), 0);
        }
    }

    private static void constants() {
        Due.sentence("`NONE = -1`: There is none.");
        Due.is("NONE", CuttingTable.NONE, -1);
    }
}
