/** Promises 1 to 8: the sentences that name a boundary case, one method a sentence. */
public final class EdgesOfReelsTest {
    private static final int MAX = Integer.MAX_VALUE;
    private static final int MIN = Integer.MIN_VALUE;

    public static void main(String[] args) {
        aNewObject();
        newObjectsBesideOthers();
        threadIsBlank();
        threadOverWhatLay();
        threadOf0To24();
        threadRefused();
        tagOfEveryNumber();
        tagOverWhatLay();
        tagRefused();
        shareOfEach();
        shareOverWhatLay();
        shareOntoItself();
        shareRefused();
        copyOfEachStock();
        copyOfNoFramesAndOfAll();
        copyLooksAtTheFirstAlone();
        copyOntoItself();
        copyRefused();
        clearOfEach();
        clearRefused();
        putTakesTheLowestBits();
        putAtTheEnds();
        putRefused();
        shootOfEachKind();
        shootIsNew();
        shootRefused();
        Due.end();
    }

    private static void aNewObject() {
        Due.sentence("Nothing lies on the spindles; the bin and the list are empty");
        CuttingTable x = new CuttingTable();
        for (int s = 0; s < 8; s++) {
            for (int what = 0; what < 3; what++) {
                Due.is("look(" + s + ", " + what + ")", x.look(s, what), -1);
            }
            Due.is("alike(0, " + s + ")", x.alike(0, s), true);
            Due.atThrows(x, s, 0, 1);
            Due.is("put(" + s + ", 0, 1)", x.put(s, 0, 1), 1);
            Due.is("shoot(" + s + ", 0, 0, 1)", x.shoot(s, 0, 0, 1), 1);
            Due.is("open(" + s + ", 0, 0)", x.open(s, 0, 0), -1);
            Due.is("close(" + s + ", 0, 0)", x.close(s, 0, 0), -1);
            Due.is("splice(" + s + ", 0, " + s + ", 0, 0)", x.splice(s, 0, s, 0, 0), -1);
            Due.is("copy(" + s + ", 0)", x.copy(s, 0), 1);
        }
        Due.counts("new", x, 0, 0, 0, 0, 0, 0);
        Due.is("takeBack()", x.takeBack(), 0);
        Due.is("play()", x.play(), 0);
        Due.is("note of the first", x.note(0, 0, 0, 0, 0), 1);
    }

    private static void newObjectsBesideOthers() {
        Due.sentence("Nothing lies on the spindles; the bin and the list are empty");
        CuttingTable old = Due.withNumbers(0, 1, 2);
        old.splice(0, 0, 0, 1, 1);
        old.note(0, 1, 0, 0, 1);
        old.put(8, 0, 0);
        CuttingTable x = new CuttingTable();
        Due.counts("a second object", x, 0, 0, 0, 0, 0, 0);
        Due.refusal("a second object", x, 0, 0, 0);
        Due.threadNumbers(x, 0, 0, 7, 8);
        Due.frames("the first object", old, 0, 1, 1);
        Due.counts("the first object", old, 1, 1, 1, 1, 1, 0);
        Due.refusal("the first object", old, 6, 0, 0);
    }

    private static void threadIsBlank() {
        Due.sentence("A new reel of a stock, all frames blank");
        for (int stock = 0; stock < 8; stock++) {
            CuttingTable x = new CuttingTable();
            x.thread(2, stock, 24);
            for (int i = 0; i < 24; i++) {
                int refused = stock < 5 ? x.put(2, i, 1) : x.shoot(2, i, 2, 1);
                Due.is("a frame of stock " + stock, refused, 0);
            }
            Due.is("thread(2, " + stock + ", 24)", x.thread(2, stock, 24), 0);
            for (int i = 0; i < 24; i++) {
                Due.is("thread(2, " + stock + ", 24): at(2, " + i + ")", x.at(2, i), stock < 5 ? 0 : -1);
            }
        }
    }

    private static void threadOverWhatLay() {
        Due.sentence("lies on a spindle from now on (what lay there does not any more)");
        CuttingTable x = Due.withNumbers(0, 1, 2);
        x.share(0, 1);
        x.tag(2, 5);
        x.thread(1, 0, 2);
        Due.frames("thread over a shared reel", x, 0, 1, 2);
        Due.frames("thread over a shared reel", x, 1, 0, 0);
        Due.is("thread over a shared reel: look(1, 2)", x.look(1, 2), 1);
        x.put(1, 0, 9);
        Due.frames("a put on the new one", x, 0, 1, 2);
        x.thread(2, 6, 0);
        Due.is("thread over a tag: look(2, 0)", x.look(2, 0), 6);
        Due.is("thread over a tag: look(2, 1)", x.look(2, 1), 0);
        x.thread(3, 7, 1);
        Due.is("thread over nothing: look(3, 0)", x.look(3, 0), 7);
        Due.is("count(0)", x.count(0), 4);
    }

    private static void threadOf0To24() {
        Due.sentence("6: also frames that are not 0 .. 24");
        for (int frames : new int[] {MIN, -25, -24, -1, 0, 1, 23, 24, 25, 26, 256, 280, 1 << 16, 1 << 31, MAX}) {
            CuttingTable x = new CuttingTable();
            x.tag(0, 77);
            boolean has = frames >= 0 && frames <= 24;
            Due.is("thread(0, 0, " + frames + ")", x.thread(0, 0, frames), has ? 0 : 6);
            Due.refusal("thread(0, 0, " + frames + ")", x, has ? 0 : 6, 0, 0);
            Due.is("thread(0, 0, " + frames + "): look(0, 1)", x.look(0, 1), has ? frames : 77);
            Due.is("thread(0, 0, " + frames + "): count(0)", x.count(0), has ? 1 : 0);
        }
    }

    private static void threadRefused() {
        Due.sentence("0, or the refusal (6)");
        for (int bad : new int[] {MIN, -1, 8, 9, 256, MAX}) {
            CuttingTable x = Due.withNumbers(0, 3);
            Due.is("thread(" + bad + ", 0, 1)", x.thread(bad, 0, 1), 6);
            Due.refusal("thread(" + bad + ", 0, 1)", x, 6, 0, 0);
            x.clear(7);
            Due.is("thread(0, " + bad + ", 1)", x.thread(0, bad, 1), 6);
            Due.refusal("thread(0, " + bad + ", 1)", x, 6, 0, 0);
            Due.frames("thread refused", x, 0, 3);
            Due.is("thread refused: count(0)", x.count(0), 1);
        }
    }

    private static void tagOfEveryNumber() {
        Due.sentence("A tag lies on a spindle from now on");
        for (int number : new int[] {MIN, -2, -1, 0, 1, 8, 24, MAX}) {
            CuttingTable x = new CuttingTable();
            Due.is("tag(7, " + number + ")", x.tag(7, number), 0);
            Due.is("tag(7, " + number + "): look(7, 0)", x.look(7, 0), 8);
            Due.is("tag(7, " + number + "): look(7, 1)", x.look(7, 1), number);
            Due.is("tag(7, " + number + "): look(7, 2)", x.look(7, 2), 7);
            Due.counts("tag(7, " + number + ")", x, 0, 0, 0, 0, 0, 0);
        }
    }

    private static void tagOverWhatLay() {
        Due.sentence("A tag lies on a spindle from now on");
        CuttingTable x = Due.withNumbers(0, 1);
        x.share(0, 1);
        x.tag(1, 4);
        Due.frames("tag over a shared reel", x, 0, 1);
        Due.is("tag over a shared reel: look(1, 0)", x.look(1, 0), 8);
        x.share(1, 2);
        x.tag(1, 5);
        Due.is("tag over a shared tag: look(1, 1)", x.look(1, 1), 5);
        Due.is("tag over a shared tag: look(2, 1)", x.look(2, 1), 4);
    }

    private static void tagRefused() {
        Due.sentence("0, or the refusal (6)");
        for (int bad : new int[] {MIN, -1, 8, MAX}) {
            CuttingTable x = new CuttingTable();
            Due.is("tag(" + bad + ", 1)", x.tag(bad, 1), 6);
            Due.refusal("tag(" + bad + ", 1)", x, 6, 0, 0);
            Due.is("tag(0, 1)", x.tag(0, 1), 0);
            Due.refusal("tag(0, 1)", x, 0, 0, 0);
        }
    }

    private static void shareOfEach() {
        Due.sentence("What lies on a spindle (a reel, a tag, or nothing) lies on another one from now on, too");
        for (int lies = 0; lies < 3; lies++) {
            for (int lay = 0; lay < 3; lay++) {
                CuttingTable x = new CuttingTable();
                lay(x, 6, lies);
                lay(x, 1, lay);
                String call = "share of " + lies + " over " + lay;
                Due.is(call, x.share(6, 1), 0);
                Due.refusal(call, x, 0, 0, 0);
                Due.is(call + ": look(1, 0)", x.look(1, 0), new int[] {-1, 2, 8}[lies]);
                Due.is(call + ": look(6, 0)", x.look(6, 0), new int[] {-1, 2, 8}[lies]);
                Due.is(call + ": look(6, 2)", x.look(6, 2), lies == 0 ? -1 : 1);
                Due.is(call + ": alike(1, 6)", x.alike(1, 6), true);
                Due.is(call + ": count(0)", x.count(0), (lies == 1 ? 1 : 0) + (lay == 1 ? 1 : 0));
            }
        }
    }

    /** 0 nothing, 1 a reel, 2 a tag. */
    private static void lay(CuttingTable x, int spindle, int what) {
        if (what == 1) {
            x.thread(spindle, 2, 3);
        } else if (what == 2) {
            x.tag(spindle, 3);
        }
    }

    private static void shareOverWhatLay() {
        Due.sentence("(what lay there does not any more)");
        CuttingTable x = Due.withNumbers(0, 1, 2);
        Due.threadNumbers(x, 1, 0, 3, 4);
        x.share(1, 2);
        x.share(0, 1);
        Due.frames("share over a reel", x, 1, 1, 2);
        Due.frames("share over a reel that lies elsewhere", x, 2, 3, 4);
        x.put(1, 0, 8);
        Due.frames("a put on the shared one", x, 0, 8, 2);
        Due.frames("a put on the shared one", x, 2, 3, 4);
        Due.is("share over it: look(2, 2)", x.look(2, 2), 2);
    }

    private static void shareOntoItself() {
        Due.sentence("lies on another one from now on, too");
        CuttingTable x = Due.withNumbers(0, 1, 2);
        x.tag(1, 4);
        for (int s = 0; s < 3; s++) {
            int was = x.look(s, 0);
            Due.is("share(" + s + ", " + s + ")", x.share(s, s), 0);
            Due.is("share(" + s + ", " + s + "): look(.., 0)", x.look(s, 0), was);
        }
        Due.frames("share onto itself", x, 0, 1, 2);
    }

    private static void shareRefused() {
        Due.sentence("0, or the refusal (6)");
        for (int bad : new int[] {MIN, -1, 8, MAX}) {
            CuttingTable x = Due.withNumbers(0, 1, 2);
            for (int s = 0; s < 2; s++) {
                Due.is("share(" + bad + ", " + s + ")", x.share(bad, s), 6);
                Due.refusal("share(" + bad + ", " + s + ")", x, 6, 0, 0);
                x.clear(7);
                Due.is("share(" + s + ", " + bad + ")", x.share(s, bad), 6);
                Due.refusal("share(" + s + ", " + bad + ")", x, 6, 0, 0);
                x.clear(7);
            }
            Due.is("share(" + bad + ", " + bad + ")", x.share(bad, bad), 6);
            Due.frames("share refused", x, 0, 1, 2);
        }
    }

    private static void copyOfEachStock() {
        Due.sentence("A new reel that is as the one on a spindle (of its stock, with the same numbers, the very same"
            + " shots)");
        for (int stock = 0; stock < 8; stock++) {
            CuttingTable x = new CuttingTable();
            x.thread(0, stock, 3);
            int refused = stock < 5 ? x.put(0, 1, 1) : x.shoot(0, 1, 2, 1);
            Due.is("copy(0, 5) of stock " + stock, x.copy(0, 5), refused);
            Due.is("copy(0, 5): look(5, 0)", x.look(5, 0), stock);
            Due.is("copy(0, 5): look(5, 1)", x.look(5, 1), 3);
            Due.is("copy(0, 5): look(5, 2)", x.look(5, 2), 5);
            Due.is("copy(0, 5): alike(0, 5)", x.alike(0, 5), true);
            Due.is("copy(0, 5): count(0)", x.count(0), 2);
            Due.is("copy(0, 5): count(5)", x.count(5), stock < 5 ? 0 : 1);
            x.close(5, 0, 1);
            Due.is("close of the copy: alike(0, 5)", x.alike(0, 5), false);
            Due.is("close of the copy: at(0, 1)", x.at(0, 1), stock < 5 ? 1 : 6);
            x.open(0, 0, 2);
            Due.is("open of the first: at(5, 0)", x.at(5, 0), stock < 5 ? 1 : 6);
        }
    }

    private static void copyOfNoFramesAndOfAll() {
        Due.sentence("A new reel that is as the one on a spindle");
        CuttingTable x = new CuttingTable();
        x.thread(0, 3, 0);
        Due.is("copy of 0 frames", x.copy(0, 1), 0);
        Due.is("copy of 0 frames: look(1, 0)", x.look(1, 0), 3);
        Due.is("copy of 0 frames: look(1, 1)", x.look(1, 1), 0);
        Due.is("copy of 0 frames: look(1, 2)", x.look(1, 2), 1);
        x.thread(0, 1, 24);
        for (int i = 0; i < 24; i++) {
            x.put(0, i, Long.MAX_VALUE - i);
        }
        Due.is("copy of 24 frames", x.copy(0, 1), 0);
        for (int i = 0; i < 24; i++) {
            Due.is("copy of 24 frames: at(1, " + i + ")", x.at(1, i), Long.MAX_VALUE - i);
        }
    }

    private static void copyLooksAtTheFirstAlone() {
        Due.sentence("the refusal (6, 1, 2: of the first spindle alone)");
        CuttingTable x = Due.withNumbers(0, 1, 2);
        x.tag(1, 1);
        Due.threadNumbers(x, 3, 1, 7);
        for (int other = 1; other < 4; other++) {
            Due.is("copy(0, " + other + ")", x.copy(0, other), 0);
            Due.frames("copy(0, " + other + ")", x, other, 1, 2);
        }
        Due.is("count(0)", x.count(0), 5);
    }

    private static void copyOntoItself() {
        Due.sentence("lies on another one from now on");
        CuttingTable x = Due.withNumbers(0, 1, 2);
        x.share(0, 4);
        Due.is("copy(0, 0)", x.copy(0, 0), 0);
        Due.is("copy(0, 0): look(4, 2)", x.look(4, 2), 4);
        x.put(0, 0, 9);
        Due.frames("copy(0, 0)", x, 4, 1, 2);
        x.copy(4, 0);
        Due.frames("copy(4, 0)", x, 0, 1, 2);
        Due.is("count(0)", x.count(0), 3);
    }

    private static void copyRefused() {
        Due.sentence("0, or the refusal (6, 1, 2: of the first spindle alone)");
        for (int bad : new int[] {MIN, -1, 8, MAX}) {
            CuttingTable x = Due.withNumbers(0, 1, 2);
            x.tag(1, 1);
            for (int s = 0; s < 3; s++) {
                Due.is("copy(" + bad + ", " + s + ")", x.copy(bad, s), 6);
                Due.is("copy(" + s + ", " + bad + ")", x.copy(s, bad), 6);
                Due.refusal("copy(" + s + ", " + bad + ")", x, 6, 0, 0);
                Due.is("copy(1, " + s + ")", x.copy(1, s), 2);
                Due.refusal("copy(1, " + s + ")", x, 2, 0, 0);
                Due.is("copy(2, " + s + ")", x.copy(2, s), 1);
                Due.refusal("copy(2, " + s + ")", x, 1, 0, 0);
            }
            Due.frames("copy refused", x, 0, 1, 2);
            Due.is("copy refused: look(1, 1)", x.look(1, 1), 1);
            Due.is("copy refused: look(2, 0)", x.look(2, 0), -1);
            Due.is("copy refused: count(0)", x.count(0), 1);
        }
    }

    private static void clearOfEach() {
        Due.sentence("Nothing lies on a spindle from now on");
        for (int lies = 0; lies < 3; lies++) {
            CuttingTable x = new CuttingTable();
            lay(x, 7, lies);
            x.share(7, 3);
            Due.is("clear of " + lies, x.clear(7), 0);
            Due.refusal("clear of " + lies, x, 0, 0, 0);
            for (int what = 0; what < 3; what++) {
                Due.is("clear of " + lies + ": look(7, " + what + ")", x.look(7, what), -1);
            }
            Due.is("clear of " + lies + ": look(3, 0)", x.look(3, 0), new int[] {-1, 2, 8}[lies]);
            Due.is("clear of " + lies + ": look(3, 2)", x.look(3, 2), lies == 0 ? -1 : 3);
            Due.is("clear again", x.clear(7), 0);
        }
    }

    private static void clearRefused() {
        Due.sentence("0, or the refusal (6)");
        for (int bad : new int[] {MIN, -1, 8, MAX}) {
            CuttingTable x = Due.withNumbers(0, 1, 2);
            Due.is("clear(" + bad + ")", x.clear(bad), 6);
            Due.refusal("clear(" + bad + ")", x, 6, 0, 0);
            Due.frames("clear(" + bad + ")", x, 0, 1, 2);
        }
    }

    private static void putTakesTheLowestBits() {
        Due.sentence("of PICTURES its lowest 32 bits, of SOUND and LETTERS its lowest 16, of MARKS 1 if it is not 0");
        for (int bit = 0; bit < 64; bit++) {
            long one = 1L << bit;
            long[] wants = {bit < 31 ? one : bit == 31 ? MIN : 0, one, bit < 15 ? one : bit == 15 ? -32768 : 0,
                bit < 16 ? one : 0, 1};
            long[] wantsOfNot = {bit < 31 ? -1 - one : bit == 31 ? MAX : -1, ~one,
                bit < 15 ? -1 - one : bit == 15 ? 32767 : -1, bit < 16 ? 65535 - one : 65535, 1};
            for (int stock = 0; stock < 5; stock++) {
                CuttingTable x = new CuttingTable();
                x.thread(0, stock, 2);
                Due.is("put of bit " + bit, x.put(0, 0, one), 0);
                Due.is("put of all but bit " + bit, x.put(0, 1, ~one), 0);
                Due.frames("bit " + bit + " into stock " + stock, x, 0, wants[stock], wantsOfNot[stock]);
            }
        }
        CuttingTable x = Due.withNumbers(4, 1);
        x.put(0, 0, 0);
        Due.frames("a mark of 0", x, 0, 0);
    }

    private static void putAtTheEnds() {
        Due.sentence("A frame of a reel of numbers gets a number");
        for (int stock = 0; stock < 5; stock++) {
            for (int frames = 0; frames <= 24; frames += 8) {
                CuttingTable x = new CuttingTable();
                x.thread(0, stock, frames);
                for (int at : new int[] {MIN, -1, 0, frames - 1, frames, 24, MAX}) {
                    boolean has = at >= 0 && at < frames;
                    Due.is("put(0, " + at + ", 1) of " + frames, x.put(0, at, 1), has ? 0 : 4);
                    Due.refusal("put(0, " + at + ", 1) of " + frames, x, has ? 0 : 4, 0, 0);
                }
                for (int i = 0; i < frames; i++) {
                    Due.is("at(0, " + i + ")", x.at(0, i), i == 0 || i == frames - 1 ? 1 : 0);
                }
            }
        }
    }

    private static void putRefused() {
        Due.sentence("0, or the refusal (6, 1, 2, 3, 4)");
        CuttingTable x = Due.withNumbers(0, 1);
        x.tag(1, 1);
        for (int stock = 5; stock < 8; stock++) {
            x.thread(2, stock, 1);
            for (int at = -1; at < 2; at++) {
                Due.is("put into stock " + stock, x.put(2, at, 1), 3);
                Due.refusal("put into stock " + stock, x, 3, 0, 0);
            }
            Due.frames("put into stock " + stock, x, 2, -1);
        }
        for (int at = -1; at < 2; at++) {
            Due.is("put(8, " + at + ", 1)", x.put(8, at, 1), 6);
            Due.is("put(-1, " + at + ", 1)", x.put(-1, at, 1), 6);
            Due.is("put(3, " + at + ", 1)", x.put(3, at, 1), 1);
            Due.is("put(1, " + at + ", 1)", x.put(1, at, 1), 2);
        }
    }

    private static void shootOfEachKind() {
        Due.sentence("gets a new shot of a kind (0 .. 2) with a number, or nothing (kind 3)");
        for (int kind : new int[] {MIN, -1, 0, 1, 2, 3, 4, 5, 256, MAX}) {
            CuttingTable x = new CuttingTable();
            Due.threadShots(x, 0, 5, 2, 2);
            boolean is = kind >= 0 && kind <= 3;
            Due.is("shoot(0, 1, " + kind + ", 8)", x.shoot(0, 1, kind, 8), is ? 0 : 6);
            Due.refusal("shoot(0, 1, " + kind + ", 8)", x, is ? 0 : 6, 0, 0);
            Due.frames("shoot(0, 1, " + kind + ", 8)", x, 0, 42, !is ? 46 : kind == 3 ? -1 : 32 + kind);
            Due.is("shoot(0, 1, " + kind + ", 8): count(5)", x.count(5), is && kind != 3 ? 3 : 2);
        }
    }

    private static void shootIsNew() {
        Due.sentence("gets a new shot");
        CuttingTable x = new CuttingTable();
        Due.threadShots(x, 0, 5, 0);
        x.copy(0, 1);
        Due.is("the very same: alike", x.alike(0, 1), true);
        Due.is("shoot of its number and kind", x.shoot(1, 0, 0, 10), 0);
        Due.frames("shoot of its number and kind", x, 1, 40);
        Due.is("a new one: alike", x.alike(0, 1), false);
        x.shoot(0, 0, 3, 0);
        x.shoot(1, 0, 3, 1);
        Due.is("nothing on both: alike", x.alike(0, 1), true);
    }

    private static void shootRefused() {
        Due.sentence("0, or the refusal (6, 1, 2, 3, 4, 5)");
        CuttingTable x = new CuttingTable();
        x.thread(0, 7, 1);
        x.tag(1, 1);
        for (int stock = 0; stock < 5; stock++) {
            x.thread(2, stock, 1);
            for (int kind = 0; kind < 4; kind++) {
                Due.is("shoot into stock " + stock, x.shoot(2, kind - 1, kind, 1), 3);
                Due.refusal("shoot into stock " + stock, x, 3, 0, 0);
            }
            Due.frames("shoot into stock " + stock, x, 2, 0);
        }
        for (int kind = 0; kind < 4; kind++) {
            Due.is("shoot(8, 0, " + kind + ", 1)", x.shoot(8, 0, kind, 1), 6);
            Due.is("shoot(-1, 0, " + kind + ", 1)", x.shoot(-1, 0, kind, 1), 6);
            Due.is("shoot(3, -1, " + kind + ", 1)", x.shoot(3, -1, kind, 1), 1);
            Due.is("shoot(1, -1, " + kind + ", 1)", x.shoot(1, -1, kind, 1), 2);
            Due.is("no shot made", x.count(5), 0);
        }
        int made = 0;
        for (int kind = 0; kind < 4; kind++) {
            for (int at : new int[] {MIN, -1, 1, 24, MAX}) {
                Due.is("shoot(0, " + at + ", " + kind + ", 1)", x.shoot(0, at, kind, 1), 4);
                Due.refusal("shoot(0, " + at + ", " + kind + ", 1)", x, 4, 0, 0);
                made += kind < 3 ? 1 : 0;
                Due.is("shoot(0, " + at + ", " + kind + ", 1): count(5)", x.count(5), made);
            }
        }
    }
}
