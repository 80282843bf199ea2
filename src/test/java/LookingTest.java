/** Promises 16, 17, 19 and 20: refusal, look, alike, count. */
public final class LookingTest {
    private static final int MAX = Integer.MAX_VALUE;
    private static final int MIN = Integer.MIN_VALUE;

    public static void main(String[] args) {
        refusalOfTheLatest();
        refusalOfAnotherWhat();
        refusalStaysOverOtherCalls();
        lookTells();
        lookForTheLowest();
        lookForNone();
        alikeReels();
        alikeShots();
        alikeTagsAndNothing();
        counts();
        Due.end();
    }

    private static void refusalOfTheLatest() {
        CuttingTable x = Due.withNumbers(0, 1, 2);
        x.thread(1, 5, 1);
        x.splice(0, 2, 0, 0, 1);
        Due.refusal("splice OUT", x, 4, 4, 0);
        x.put(0, 2, 1);
        Due.refusal("put OUT", x, 4, 0, 0);
        x.open(0, -1, 0);
        Due.refusal("open OUT", x, 4, 1, 0);
        x.shoot(1, -1, 0, 0);
        Due.refusal("shoot OUT", x, 4, 0, 0);
        x.close(0, 0, -1);
        Due.refusal("close OUT", x, 4, 3, 0);
        x.thread(0, 0, 25);
        Due.refusal("thread", x, 6, 0, 0);
        x.shoot(1, 0, 0, 5);
        Due.refusal("shoot", x, 0, 0, 0);
        x.thread(2, 7, 1);
        x.splice(1, 0, 2, 0, 1);
        Due.refusal("splice MISFIT", x, 5, 0, 0);
        x.loop(0, 0, 1, 9);
        Due.refusal("loop OUT", x, 4, 5, 0);
        x.tag(3, 1);
        Due.refusal("tag", x, 0, 0, 0);
    }

    private static void refusalOfAnotherWhat() {
        CuttingTable x = Due.withNumbers(0, 1, 2);
        x.splice(0, 2, 0, 0, 1);
        for (int what : new int[] {-1, 3, 4, MIN, MAX}) {
            Due.is("refusal(" + what + ")", x.refusal(what), -1);
        }
    }

    private static void refusalStaysOverOtherCalls() {
        CuttingTable x = Due.withNumbers(0, 1, 2);
        x.splice(0, 2, 0, 0, 1);
        x.note(0, 0, 0, 0, 0);
        x.takeBack();
        x.look(9, 9);
        x.alike(0, 9);
        x.count(9);
        x.refusal(9);
        Due.atThrows(x, 9, 0, 1);
        Due.refusal("other calls", x, 4, 4, 0);
    }

    private static void lookTells() {
        CuttingTable x = new CuttingTable();
        for (int stock = 0; stock < 8; stock++) {
            x.thread(0, stock, 24 - stock);
            Due.is("look(0, 0)", x.look(0, 0), stock);
            Due.is("look(0, 1)", x.look(0, 1), 24 - stock);
        }
        x.tag(0, -1);
        Due.is("look(0, 0) of a tag", x.look(0, 0), 8);
        Due.is("look(0, 1) of a tag", x.look(0, 1), -1);
        x.tag(0, MIN);
        Due.is("look(0, 1) of a tag", x.look(0, 1), MIN);
    }

    private static void lookForTheLowest() {
        CuttingTable x = new CuttingTable();
        x.thread(5, 0, 2);
        x.share(5, 7);
        x.copy(5, 1);
        Due.is("look(7, 2)", x.look(7, 2), 5);
        Due.is("look(5, 2)", x.look(5, 2), 5);
        Due.is("look(1, 2)", x.look(1, 2), 1);
        x.share(7, 0);
        Due.is("look(7, 2)", x.look(7, 2), 0);
        x.clear(0);
        x.clear(5);
        Due.is("look(7, 2)", x.look(7, 2), 7);
        x.tag(2, 4);
        x.tag(3, 4);
        x.share(3, 4);
        Due.is("look(3, 2) of another tag", x.look(3, 2), 3);
        Due.is("look(4, 2) of the same tag", x.look(4, 2), 3);
    }

    private static void lookForNone() {
        CuttingTable x = new CuttingTable();
        x.thread(0, 0, 2);
        x.tag(1, 3);
        for (int spindle : new int[] {-1, 8, MIN, MAX, 2}) {
            for (int what = -1; what < 4; what++) {
                Due.is("look(" + spindle + ", " + what + ")", x.look(spindle, what), -1);
            }
        }
        for (int what : new int[] {-1, 3, MIN, MAX}) {
            Due.is("look(0, " + what + ")", x.look(0, what), -1);
            Due.is("look(1, " + what + ")", x.look(1, what), -1);
        }
    }

    private static void alikeBoth(String call, CuttingTable x, int one, int two, boolean want) {
        Due.is(call, x.alike(one, two), want);
        Due.is(call + ", the other way round", x.alike(two, one), want);
    }

    private static void alikeReels() {
        CuttingTable x = Due.withNumbers(0, 1, 2);
        Due.threadNumbers(x, 1, 0, 1, 2);
        Due.threadNumbers(x, 2, 0, 1, 3);
        Due.threadNumbers(x, 3, 0, 1, 2, 0);
        Due.threadNumbers(x, 4, 1, 1, 2);
        x.share(0, 5);
        x.tag(6, 2);
        alikeBoth("the same reel", x, 0, 5, true);
        alikeBoth("itself", x, 0, 0, true);
        alikeBoth("the same numbers", x, 0, 1, true);
        alikeBoth("other numbers", x, 0, 2, false);
        alikeBoth("more frames", x, 0, 3, false);
        alikeBoth("another stock", x, 0, 4, false);
        alikeBoth("a tag", x, 0, 6, false);
        alikeBoth("nothing", x, 0, 7, false);
        x.thread(0, 5, 0);
        x.thread(1, 6, 0);
        x.thread(2, 5, 0);
        alikeBoth("no frames of two stocks", x, 0, 1, false);
        alikeBoth("no frames of one stock", x, 0, 2, true);
        x.tag(3, 0);
        alikeBoth("no frames and a tag", x, 0, 3, false);
    }

    private static void alikeShots() {
        CuttingTable x = new CuttingTable();
        Due.threadShots(x, 0, 6, 1, 3);
        Due.threadShots(x, 1, 6, 1, 3);
        alikeBoth("equal shots", x, 0, 1, false);
        x.copy(0, 1);
        alikeBoth("the very same shots", x, 0, 1, true);
        x.shoot(1, 1, 1, 0);
        alikeBoth("a shot and nothing", x, 0, 1, false);
        x.shoot(1, 1, 3, 0);
        alikeBoth("nothing again", x, 0, 1, true);
        x.thread(2, 5, 2);
        x.splice(0, 0, 2, 0, 2);
        alikeBoth("the very same shots of two stocks", x, 0, 2, false);
        x.thread(3, 6, 2);
        x.thread(4, 6, 2);
        alikeBoth("nothing on all frames", x, 3, 4, true);
    }

    private static void alikeTagsAndNothing() {
        CuttingTable x = new CuttingTable();
        x.tag(0, 5);
        x.tag(1, 5);
        x.tag(2, 6);
        x.share(0, 3);
        alikeBoth("tags of one number", x, 0, 1, true);
        alikeBoth("the same tag", x, 0, 3, true);
        alikeBoth("tags of two numbers", x, 0, 2, false);
        alikeBoth("a tag and nothing", x, 0, 4, false);
        alikeBoth("nothing and nothing", x, 4, 5, true);
        for (int spindle : new int[] {-1, 8, MIN, MAX}) {
            alikeBoth("no spindle and a tag", x, spindle, 0, false);
            alikeBoth("no spindle and nothing", x, spindle, 5, false);
            alikeBoth("no spindle twice", x, spindle, spindle, false);
        }
    }

    private static void counts() {
        CuttingTable x = new CuttingTable();
        Due.threadShots(x, 0, 5, 2, 1, 0);
        x.thread(1, 7, 3);
        x.copy(0, 2);
        x.thread(9, 0, 0);
        x.copy(5, 2);
        x.tag(6, 0);
        x.share(0, 3);
        Due.counts("made", x, 3, 0, 0, 0, 0, 3);
        x.splice(0, 0, 1, 1, 2);
        Due.counts("a MISFIT", x, 3, 0, 1, 0, 1, 3);
        x.splice(0, 0, 2, 0, 3);
        Due.counts("a splice", x, 3, 1, 4, 0, 3, 3);
        x.loop(0, 0, 1, 5);
        Due.counts("a loop", x, 3, 3, 6, 0, 1, 3);
        x.note(0, 0, 1, 1, 2);
        x.note(6, 0, 1, 1, 2);
        x.play();
        Due.counts("a play", x, 3, 4, 8, 1, 2, 3);
        x.takeBack();
        x.open(0, 0, 1);
        x.close(0, 0, 1);
        Due.counts("taken back", x, 3, 4, 8, 1, 0, 3);
        for (int what : new int[] {-1, 6, 7, MIN, MAX}) {
            Due.is("count(" + what + ")", x.count(what), -1);
        }
    }
}
