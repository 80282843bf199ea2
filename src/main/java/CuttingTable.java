/** A cutting table for films. What each call promises stands in the document, ../shared/DOC.md. */
public final class CuttingTable {
    public static final int NONE = -1;

    private static final int SPINDLES = 8;
    private static final int MOST_FRAMES = 24;
    private static final int MOST_CUTS = 16;
    private static final int MOST_TIMES = 20;
    private static final int CUT_WIDTH = 5;

    private static final int PICTURES = 0;
    private static final int SOUND = 2;
    private static final int LETTERS = 3;
    private static final int MARKS = 4;
    private static final int SHOTS = 5;
    private static final int PRINTS = 7;
    private static final int TAG = 8;

    private static final int KIND_OF_NOTHING = 3;

    private static final int FINE = 0;
    private static final int NOTHING = 1;
    private static final int NO_REEL = 2;
    private static final int UNLIKE = 3;
    private static final int OUT = 4;
    private static final int MISFIT = 5;
    private static final int NUMBER = 6;

    private static final long BLANK = 0L;
    private static final int KIND_SHIFT = 32;
    private static final int SERIAL_SHIFT = 34;
    private static final long NUMBER_MASK = 0xFFFFFFFFL;

    /**
     * What may lie on a spindle. A tag is held as a reel of a sort of its own without frames, so that
     * looking and comparing need not tell the two apart.
     */
    private static final class Load {
        /** The reel's stock, or TAG. */
        final int sort;
        /** How many frames the reel has, or the tag's number. */
        final int number;
        /** Numbers as they are, shots as shotOf() packs them: BLANK is 0 in both. */
        final long[] frames;

        Load(int sort, int number, long[] frames) {
            this.sort = sort;
            this.number = number;
            this.frames = frames;
        }
    }

    private final Load[] spindles;

    /** The list, CUT_WIDTH numbers a cut, in one row that is made once. */
    private final int[] cuts;
    private int cutCount;

    private final long[] binFrames;
    private Load binReel;
    private int binPlace;
    private int binCount;

    private int lastRefusal;
    private int lastWay;
    private int lastAhead;

    private int reelsMade;
    private int splicesDone;
    private int framesGone;
    private int shotsMade;

    public CuttingTable() {
        spindles = new Load[SPINDLES];
        cuts = new int[MOST_CUTS * CUT_WIDTH];
        binFrames = new long[MOST_FRAMES];
    }

    public int thread(int spindle, int stock, int frames) {
        if (!isSpindle(spindle) || stock < PICTURES || stock > PRINTS || frames < 0 || frames > MOST_FRAMES) {
            return settle(NUMBER, 0, 0);
        }
        spindles[spindle] = new Load(stock, frames, new long[frames]);
        reelsMade++;
        return settle(FINE, 0, 0);
    }

    public int tag(int spindle, int number) {
        if (!isSpindle(spindle)) {
            return settle(NUMBER, 0, 0);
        }
        spindles[spindle] = new Load(TAG, number, new long[0]);
        return settle(FINE, 0, 0);
    }

    public int share(int spindle, int other) {
        if (!isSpindle(spindle) || !isSpindle(other)) {
            return settle(NUMBER, 0, 0);
        }
        spindles[other] = spindles[spindle];
        return settle(FINE, 0, 0);
    }

    public int copy(int spindle, int other) {
        int refused = isSpindle(other) ? refusalOfReel(spindle) : NUMBER;
        if (refused != FINE) {
            return settle(refused, 0, 0);
        }
        Load reel = spindles[spindle];
        spindles[other] = new Load(reel.sort, reel.number, reel.frames.clone());
        reelsMade++;
        return settle(FINE, 0, 0);
    }

    public int clear(int spindle) {
        if (!isSpindle(spindle)) {
            return settle(NUMBER, 0, 0);
        }
        spindles[spindle] = null;
        return settle(FINE, 0, 0);
    }

    public int put(int spindle, int at, long value) {
        int refused = refusalOfFrame(spindle, true, at);
        if (refused != FINE) {
            return settle(refused, 0, 0);
        }
        Load reel = spindles[spindle];
        reel.frames[at] = fitted(reel.sort, value);
        emptyBin();
        return settle(FINE, 0, 0);
    }

    public int shoot(int spindle, int at, int kind, int number) {
        if (kind < 0 || kind > KIND_OF_NOTHING) {
            return settle(NUMBER, 0, 0);
        }
        int refused = refusalOfFrame(spindle, false, at);
        if (refused != FINE && refused != OUT) {
            return settle(refused, 0, 0);
        }
        // The document counts a shot as made even if it then finds no frame, or one that does not bear it.
        long shot = kind == KIND_OF_NOTHING ? BLANK : newShot(kind, number);
        if (refused == OUT) {
            return settle(OUT, 0, 0);
        }
        Load reel = spindles[spindle];
        if (!bears(reel.sort, shot)) {
            return settle(MISFIT, 0, 0);
        }
        reel.frames[at] = shot;
        emptyBin();
        return settle(FINE, 0, 0);
    }

    public int splice(int from, int at, int to, int place, int n) {
        int refused = doSplice(from, at, to, place, n);
        return refused == FINE ? n : -refused;
    }

    public int open(int spindle, int at, int n) {
        int refused = refusalOfGap(spindle, at, n);
        if (refused != FINE) {
            return -refused;
        }
        long[] frames = spindles[spindle].frames;
        int moved = frames.length - at - n;
        System.arraycopy(frames, at, frames, at + n, moved);
        blankFrames(frames, at, at + n);
        emptyBin();
        return moved;
    }

    public int close(int spindle, int at, int n) {
        int refused = refusalOfGap(spindle, at, n);
        if (refused != FINE) {
            return -refused;
        }
        long[] frames = spindles[spindle].frames;
        int moved = frames.length - at - n;
        System.arraycopy(frames, at + n, frames, at, moved);
        blankFrames(frames, at + moved, frames.length);
        emptyBin();
        return moved;
    }

    public int loop(int spindle, int at, int n, int times) {
        if (!isSpindle(spindle) || times < 0 || times > MOST_TIMES) {
            return -settle(NUMBER, 0, 0);
        }
        settle(FINE, 0, 0);
        int done = 0;
        while (done < times && doSplice(spindle, at, spindle, at + (done + 1L) * n, n) == FINE) {
            done++;
        }
        return done;
    }

    public int note(int from, int at, int to, int place, int n) {
        if (cutCount >= MOST_CUTS) {
            return NONE;
        }
        int row = cutCount * CUT_WIDTH;
        cuts[row] = from;
        cuts[row + 1] = at;
        cuts[row + 2] = to;
        cuts[row + 3] = place;
        cuts[row + 4] = n;
        cutCount++;
        return cutCount;
    }

    public int play() {
        settle(FINE, 0, 0);
        int done = 0;
        while (done < cutCount && playCut(done) == FINE) {
            done++;
        }
        cutCount -= done;
        System.arraycopy(cuts, done * CUT_WIDTH, cuts, 0, cutCount * CUT_WIDTH);
        return done;
    }

    public int takeBack() {
        int taken = binCount;
        if (binReel != null) {
            System.arraycopy(binFrames, 0, binReel.frames, binPlace, taken);
        }
        emptyBin();
        return taken;
    }

    public int refusal(int what) {
        switch (what) {
            case 0: return lastRefusal;
            case 1: return lastWay;
            case 2: return lastAhead;
            default: return NONE;
        }
    }

    public int look(int spindle, int what) {
        Load load = loadOn(spindle);
        if (load == null) {
            return NONE;
        }
        switch (what) {
            case 0: return load.sort;
            case 1: return load.number;
            case 2: return lowestWith(load);
            default: return NONE;
        }
    }

    public long at(int spindle, int frame) throws IllegalStateException, IndexOutOfBoundsException {
        Load load = loadOn(spindle);
        if (load == null || load.sort == TAG) {
            throw new IllegalStateException("no reel lies there");
        }
        if (frame < 0 || frame >= load.frames.length) {
            throw new IndexOutOfBoundsException("the reel has no such frame");
        }
        long held = load.frames[frame];
        if (isOfNumbers(load.sort)) {
            return held;
        }
        return held == BLANK ? NONE : 4L * numberOf(held) + kindOf(held);
    }

    public boolean alike(int spindle, int other) {
        if (!isSpindle(spindle) || !isSpindle(other)) {
            return false;
        }
        Load one = spindles[spindle];
        Load two = spindles[other];
        if (one == null || two == null) {
            return one == two;
        }
        return one.sort == two.sort && one.number == two.number && sameFrames(one.frames, two.frames);
    }

    public int count(int what) {
        switch (what) {
            case 0: return reelsMade;
            case 1: return splicesDone;
            case 2: return framesGone;
            case 3: return cutCount;
            case 4: return binCount;
            case 5: return shotsMade;
            default: return NONE;
        }
    }

    private static boolean isSpindle(int spindle) {
        return spindle >= 0 && spindle < SPINDLES;
    }

    private static boolean isOfNumbers(int stock) {
        return stock < SHOTS;
    }

    private Load loadOn(int spindle) {
        return isSpindle(spindle) ? spindles[spindle] : null;
    }

    private int lowestWith(Load load) {
        for (int i = 0; i < SPINDLES; i++) {
            if (spindles[i] == load) {
                return i;
            }
        }
        return NONE;
    }

    private static boolean sameFrames(long[] one, long[] two) {
        if (one.length != two.length) {
            return false;
        }
        for (int i = 0; i < one.length; i++) {
            if (one[i] != two[i]) {
                return false;
            }
        }
        return true;
    }

    private int settle(int refused, int way, int ahead) {
        lastRefusal = refused;
        lastWay = way;
        lastAhead = ahead;
        return refused;
    }

    private int refusalOfReel(int spindle) {
        if (!isSpindle(spindle)) {
            return NUMBER;
        }
        Load load = spindles[spindle];
        if (load == null) {
            return NOTHING;
        }
        return load.sort == TAG ? NO_REEL : FINE;
    }

    private int refusalOfFrame(int spindle, boolean numbersWanted, int at) {
        int refused = refusalOfReel(spindle);
        if (refused != FINE) {
            return refused;
        }
        Load reel = spindles[spindle];
        if (isOfNumbers(reel.sort) != numbersWanted) {
            return UNLIKE;
        }
        return at < 0 || at >= reel.frames.length ? OUT : FINE;
    }

    private int refusalOfGap(int spindle, int at, int n) {
        int refused = refusalOfReel(spindle);
        if (refused != FINE) {
            return settle(refused, 0, 0);
        }
        int frames = spindles[spindle].frames.length;
        // With place 0 in the same reel the WAYs 2 and 5 never come first.
        int way = wayOut(at, 0L, n, frames, frames);
        return settle(way == 0 ? FINE : OUT, way, 0);
    }

    private int refusalOfPair(int from, int to) {
        int first = refusalOfReel(from);
        int second = refusalOfReel(to);
        if (first == NUMBER || second == NUMBER) {
            return NUMBER;
        }
        if (first == NOTHING || second == NOTHING) {
            return NOTHING;
        }
        if (first == NO_REEL || second == NO_REEL) {
            return NO_REEL;
        }
        int source = spindles[from].sort;
        int target = spindles[to].sort;
        boolean unlike = source != target && (isOfNumbers(source) || isOfNumbers(target));
        return unlike ? UNLIKE : FINE;
    }

    /** The place is a long because that of a loop's splice may lie beyond the ints. */
    private static int wayOut(int at, long place, int n, int frames, int framesThere) {
        if (at < 0) {
            return 1;
        }
        if (place < 0) {
            return 2;
        }
        if (n < 0) {
            return 3;
        }
        if ((long) at + n > frames) {
            return 4;
        }
        return place + n > framesThere ? 5 : 0;
    }

    private int doSplice(int from, int at, int to, long place, int n) {
        int refused = refusalOfPair(from, to);
        if (refused != FINE) {
            return settle(refused, 0, 0);
        }
        Load source = spindles[from];
        Load target = spindles[to];
        int way = wayOut(at, place, n, source.frames.length, target.frames.length);
        if (way != 0) {
            return settle(OUT, way, 0);
        }
        int going = borneAhead(source.frames, at, n, target.sort);
        if (going > 0) {
            fillBin(target, (int) place, going);
            System.arraycopy(source.frames, at, target.frames, (int) place, going);
            framesGone += going;
        }
        if (going < n) {
            return settle(MISFIT, 0, going);
        }
        splicesDone++;
        return settle(FINE, 0, 0);
    }

    private int playCut(int index) {
        int row = index * CUT_WIDTH;
        return doSplice(cuts[row], cuts[row + 1], cuts[row + 2], cuts[row + 3], cuts[row + 4]);
    }

    private static int borneAhead(long[] frames, int at, int n, int stock) {
        int going = 0;
        while (going < n && bears(stock, frames[at + going])) {
            going++;
        }
        return going;
    }

    private static void blankFrames(long[] frames, int from, int end) {
        for (int i = from; i < end; i++) {
            frames[i] = BLANK;
        }
    }

    private void fillBin(Load reel, int place, int n) {
        System.arraycopy(reel.frames, place, binFrames, 0, n);
        binReel = reel;
        binPlace = place;
        binCount = n;
    }

    private void emptyBin() {
        binReel = null;
        binPlace = 0;
        binCount = 0;
    }

    private static long fitted(int stock, long value) {
        switch (stock) {
            case PICTURES: return (int) value;
            case SOUND: return (short) value;
            case LETTERS: return (char) value;
            case MARKS: return value == 0 ? 0 : 1;
            default: return value;
        }
    }

    private long newShot(int kind, int number) {
        shotsMade++;
        return shotOf(shotsMade, kind, number);
    }

    /** The serial, from 1 on, keeps two shots of one kind and number apart, and every shot from BLANK. */
    private static long shotOf(int serial, int kind, int number) {
        return ((long) serial << SERIAL_SHIFT) | ((long) kind << KIND_SHIFT) | (number & NUMBER_MASK);
    }

    private static int kindOf(long shot) {
        return (int) (shot >>> KIND_SHIFT) & 3;
    }

    private static int numberOf(long shot) {
        return (int) shot;
    }

    /** Kind 0, 1, 2 is the least that SHOTS, TAKES, PRINTS bear: both go up in the same order. */
    private static boolean bears(int stock, long frame) {
        return isOfNumbers(stock) || frame == BLANK || kindOf(frame) >= stock - SHOTS;
    }
}
