/** Promise 15: takeBack, and what the bin has. */
public final class BinTest {
    public static void main(String[] args) {
        takesBack();
        takesBackOnce();
        takesBackOverlaps();
        takesBackTheLatestAlone();
        takesBackMisfits();
        takesBackShots();
        keepsTheBinWithoutAFrame();
        keepsTheBinOverSpindles();
        followsTheReel();
        leavesTheRest();
        Due.end();
    }

    private static void takesBack() {
        CuttingTable x = Due.withNumbers(1, 1, 2, 3);
        Due.threadNumbers(x, 1, 1, 7, 8, 9);
        x.splice(0, 0, 1, 1, 2);
        Due.is("splice: count(4)", x.count(4), 2);
        Due.is("takeBack()", x.takeBack(), 2);
        Due.frames("takeBack()", x, 1, 7, 8, 9);
        Due.frames("takeBack()", x, 0, 1, 2, 3);
    }

    private static void takesBackOnce() {
        CuttingTable x = Due.withNumbers(1, 1, 2, 3);
        x.splice(0, 0, 0, 1, 1);
        x.splice(0, 0, 0, 2, 1);
        Due.is("takeBack()", x.takeBack(), 1);
        Due.is("takeBack(): count(4)", x.count(4), 0);
        Due.is("takeBack() again", x.takeBack(), 0);
        Due.frames("takeBack() again", x, 0, 1, 1, 3);
    }

    private static void takesBackOverlaps() {
        CuttingTable x = Due.withNumbers(1, 1, 2, 3, 4, 5);
        x.splice(0, 0, 0, 1, 4);
        Due.is("takeBack() of an overlap", x.takeBack(), 4);
        Due.frames("takeBack() of an overlap", x, 0, 1, 2, 3, 4, 5);
        x.splice(0, 1, 0, 0, 4);
        Due.is("takeBack() of an overlap back", x.takeBack(), 4);
        Due.frames("takeBack() of an overlap back", x, 0, 1, 2, 3, 4, 5);
        x.thread(3, 2, 24);
        x.put(3, 23, 5);
        x.splice(3, 0, 3, 0, 24);
        Due.is("takeBack() of a whole reel", x.takeBack(), 24);
        Due.is("takeBack() of a whole reel: at", x.at(3, 23), 5);
    }

    private static void takesBackTheLatestAlone() {
        CuttingTable x = Due.withNumbers(1, 1, 2, 3);
        Due.threadNumbers(x, 1, 1, 7, 8, 9);
        x.splice(0, 0, 1, 0, 3);
        x.splice(1, 2, 0, 0, 1);
        Due.is("takeBack() of two", x.takeBack(), 1);
        Due.frames("takeBack() of two", x, 0, 1, 2, 3);
        Due.frames("takeBack() of two", x, 1, 1, 2, 3);
    }

    private static void takesBackMisfits() {
        CuttingTable x = new CuttingTable();
        Due.threadShots(x, 0, 5, 1, 1, 0);
        Due.threadShots(x, 1, 6, 2, 2, 2);
        x.splice(0, 0, 1, 0, 3);
        Due.frames("MISFIT", x, 1, 41, 45, 50);
        Due.is("takeBack() of a MISFIT", x.takeBack(), 2);
        Due.frames("takeBack() of a MISFIT", x, 1, 42, 46, 50);
        Due.refusal("takeBack() leaves the refusal", x, 5, 0, 2);
        x.splice(0, 0, 1, 1, 1);
        x.splice(0, 2, 1, 0, 1);
        Due.is("MISFIT without a frame: count(4)", x.count(4), 1);
        Due.is("takeBack() behind it", x.takeBack(), 1);
        Due.frames("takeBack() behind it", x, 1, 42, 46, 50);
    }

    private static void takesBackShots() {
        CuttingTable x = new CuttingTable();
        Due.threadShots(x, 0, 5, 0, 1, 3);
        x.copy(0, 1);
        x.splice(0, 1, 0, 0, 2);
        Due.is("splice: alike", x.alike(0, 1), false);
        Due.is("takeBack() of shots", x.takeBack(), 2);
        Due.is("takeBack() of shots: alike", x.alike(0, 1), true);
    }

    private static void keepsTheBinWithoutAFrame() {
        CuttingTable x = Due.withNumbers(1, 1, 2, 3);
        x.splice(0, 0, 0, 1, 2);
        x.splice(0, 0, 0, 1, 0);
        x.splice(0, 0, 0, 1, 9);
        x.splice(9, 0, 0, 1, 1);
        x.loop(0, 0, 0, 5);
        x.loop(0, 0, 9, 5);
        x.note(0, 1, 0, 0, 0);
        x.play();
        Due.is("splices without a frame: count(4)", x.count(4), 2);
        Due.is("splices without a frame: takeBack()", x.takeBack(), 2);
        Due.frames("splices without a frame", x, 0, 1, 2, 3);
    }

    private static void keepsTheBinOverSpindles() {
        CuttingTable x = Due.withNumbers(1, 1, 2, 3);
        x.splice(0, 0, 0, 1, 2);
        x.thread(1, 0, 2);
        x.tag(2, 0);
        x.share(0, 3);
        x.copy(0, 4);
        x.clear(5);
        x.note(0, 0, 0, 0, 0);
        Due.is("spindles: count(4)", x.count(4), 2);
        Due.is("spindles: takeBack()", x.takeBack(), 2);
        Due.frames("spindles", x, 0, 1, 2, 3);
        Due.frames("the copy stays", x, 4, 1, 1, 2);
    }

    private static void followsTheReel() {
        CuttingTable x = Due.withNumbers(1, 1, 2, 3);
        x.splice(0, 0, 0, 1, 2);
        x.share(0, 6);
        x.thread(0, 1, 3);
        Due.is("moved: takeBack()", x.takeBack(), 2);
        Due.frames("moved", x, 6, 1, 2, 3);
        Due.frames("moved", x, 0, 0, 0, 0);
        x.splice(6, 0, 6, 1, 2);
        x.clear(6);
        Due.is("lies nowhere: count(4)", x.count(4), 2);
        Due.is("lies nowhere: takeBack()", x.takeBack(), 2);
        Due.frames("lies nowhere", x, 0, 0, 0, 0);
    }

    private static void leavesTheRest() {
        CuttingTable x = Due.withNumbers(1, 1, 2, 3);
        x.note(0, 0, 0, 0, 1);
        x.splice(0, 0, 0, 1, 2);
        x.clear(8);
        x.takeBack();
        Due.counts("takeBack()", x, 1, 1, 2, 1, 0, 0);
        Due.refusal("takeBack()", x, 6, 0, 0);
    }
}
