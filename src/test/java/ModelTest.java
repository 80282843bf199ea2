import java.lang.reflect.Array;
import java.util.ArrayList;
import java.util.Arrays;
import java.util.List;

/**
 * All promises: runs of calls, from fixed seeds, on the table and on a model of it that is built another way, out of
 * Java's own typed arrays and System.arraycopy between them; every answer is compared, and all that can be seen of
 * the two at the end of each run.
 */
public final class ModelTest {
    private static final int RUNS = 20_000;
    /** With the calls of the last look at all that can be seen, a run stays below the document's 512. */
    private static final int MOST_CALLS = 200;

    private static class Shot {
        final int number;

        Shot(int number) {
            this.number = number;
        }
    }

    private static class Take extends Shot {
        Take(int number) {
            super(number);
        }
    }

    private static final class Print extends Take {
        Print(int number) {
            super(number);
        }
    }

    private record Tag(int number) {
    }

    private static final Class<?>[] STOCKS = {int.class, long.class, short.class, char.class, boolean.class,
        Shot.class, Take.class, Print.class};

    /** Numbers that are well mixed, and the same for the same seed on every machine. */
    private static final class Mixer {
        private long state;

        Mixer(int seed) {
            state = seed;
        }

        long next() {
            state += 0x9E3779B97F4A7C15L;
            long z = (state ^ (state >>> 30)) * 0xBF58476D1CE4E5B9L;
            z = (z ^ (z >>> 27)) * 0x94D049BB133111EBL;
            return z ^ (z >>> 31);
        }

        int below(int bound) {
            return (int) Long.remainderUnsigned(next(), bound);
        }
    }

    /** Thrown by the model where the document refuses. */
    private static final class Refused extends Exception {
        private static final long serialVersionUID = 1L;
        final int why;
        final int way;
        final int ahead;

        Refused(int why, int way, int ahead) {
            this.why = why;
            this.way = way;
            this.ahead = ahead;
        }
    }

    private static final class Model {
        final Object[] lies = new Object[8];
        final List<int[]> list = new ArrayList<>();
        final int[] refusal = new int[3];
        final int[] count = new int[6];
        Object binReel;
        Object binHad;
        int binPlace;

        static void want(boolean fine, int why) throws Refused {
            if (!fine) {
                throw new Refused(why, 0, 0);
            }
        }

        static boolean spindle(int s) {
            return 0 <= s && s <= 7;
        }

        static int stockOf(Object reel) {
            for (int i = 0; i < 8; i++) {
                if (reel.getClass().getComponentType() == STOCKS[i]) {
                    return i;
                }
            }
            throw new AssertionError();
        }

        Object[] reels(int... spindles) throws Refused {
            for (int s : spindles) {
                want(spindle(s), 6);
            }
            for (int s : spindles) {
                want(lies[s] != null, 1);
            }
            for (int s : spindles) {
                want(!(lies[s] instanceof Tag), 2);
            }
            Object[] reels = new Object[spindles.length];
            for (int i = 0; i < reels.length; i++) {
                reels[i] = lies[spindles[i]];
            }
            return reels;
        }

        void told(Refused r) {
            refusal[0] = r == null ? 0 : r.why;
            refusal[1] = r == null ? 0 : r.way;
            refusal[2] = r == null ? 0 : r.ahead;
        }

        int call(int which, int[] a, long value) {
            if (which == 10) {
                return note(a);
            }
            if (which == 12) {
                return takeBack();
            }
            boolean answersHowMany = which >= 7;
            try {
                told(null);
                return change(which, a, value);
            } catch (Refused r) {
                told(r);
                return answersHowMany ? -r.why : r.why;
            }
        }

        int change(int which, int[] a, long value) throws Refused {
            switch (which) {
                case 0: return thread(a[0], a[1], a[2]);
                case 1: want(spindle(a[0]), 6); lies[a[0]] = new Tag(a[1]); return 0;
                case 2: want(spindle(a[0]) && spindle(a[1]), 6); lies[a[1]] = lies[a[0]]; return 0;
                case 3: return copy(a[0], a[1]);
                case 4: want(spindle(a[0]), 6); lies[a[0]] = null; return 0;
                case 5: return put(a[0], a[1], value);
                case 6: return shoot(a[0], a[1], a[2], a[3]);
                case 7: return splice(a[0], a[1], a[2], a[3], a[4]);
                case 8: return gap(a[0], a[1], a[2], true);
                case 9: return gap(a[0], a[1], a[2], false);
                case 11: return play();
                case 13: return loop(a[0], a[1], a[2], a[3]);
                default: throw new AssertionError();
            }
        }

        int thread(int s, int stock, int frames) throws Refused {
            want(spindle(s) && 0 <= stock && stock <= 7 && 0 <= frames && frames <= 24, 6);
            lies[s] = Array.newInstance(STOCKS[stock], frames);
            count[0]++;
            return 0;
        }

        static Object twin(Object reel, int from, int n) {
            Object twin = Array.newInstance(reel.getClass().getComponentType(), n);
            System.arraycopy(reel, from, twin, 0, n);
            return twin;
        }

        int copy(int s, int other) throws Refused {
            want(spindle(other), 6);
            Object reel = reels(s)[0];
            lies[other] = twin(reel, 0, Array.getLength(reel));
            count[0]++;
            return 0;
        }

        int put(int s, int at, long value) throws Refused {
            Object reel = reels(s)[0];
            want(!(reel instanceof Object[]), 3);
            want(0 <= at && at < Array.getLength(reel), 4);
            if (reel instanceof int[] r) {
                r[at] = (int) value;
            } else if (reel instanceof long[] r) {
                r[at] = value;
            } else if (reel instanceof short[] r) {
                r[at] = (short) value;
            } else if (reel instanceof char[] r) {
                r[at] = (char) value;
            } else {
                Array.setBoolean(reel, at, value != 0);
            }
            binReel = null;
            return 0;
        }

        int shoot(int s, int at, int kind, int number) throws Refused {
            want(spindle(s) && 0 <= kind && kind <= 3, 6);
            Object reel = reels(s)[0];
            want(reel instanceof Object[], 3);
            Shot shot = kind == 0 ? new Shot(number) : kind == 1 ? new Take(number) : kind == 2 ? new Print(number)
                : null;
            count[5] += shot != null ? 1 : 0;
            Object[] shots = (Object[]) reel;
            want(0 <= at && at < shots.length, 4);
            try {
                shots[at] = shot;
            } catch (ArrayStoreException e) {
                throw new Refused(5, 0, 0);
            }
            binReel = null;
            return 0;
        }

        static void ways(int at, long place, int n, int first, int second) throws Refused {
            int way = at < 0 ? 1 : place < 0 ? 2 : n < 0 ? 3 : at + (long) n > first ? 4 : place + n > second ? 5 : 0;
            if (way != 0) {
                throw new Refused(4, way, 0);
            }
        }

        int splice(int from, int at, int to, long place, int n) throws Refused {
            Object[] both = reels(from, to);
            Object one = both[0];
            Object two = both[1];
            want(one.getClass() == two.getClass() || one instanceof Object[] && two instanceof Object[], 3);
            ways(at, place, n, Array.getLength(one), Array.getLength(two));
            int p = (int) place;
            Object had = twin(two, p, n);
            int went = n;
            try {
                System.arraycopy(one, at, two, p, n);
            } catch (ArrayStoreException e) {
                Class<?> borne = two.getClass().getComponentType();
                went = 0;
                while (Array.get(one, at + went) == null || borne.isInstance(Array.get(one, at + went))) {
                    went++;
                }
            }
            count[2] += went;
            if (went > 0) {
                binReel = two;
                binPlace = p;
                binHad = twin(had, 0, went);
            }
            if (went < n) {
                throw new Refused(5, 0, went);
            }
            count[1]++;
            return n;
        }

        int gap(int s, int at, int n, boolean open) throws Refused {
            Object reel = reels(s)[0];
            int frames = Array.getLength(reel);
            ways(at, 0, n, frames, frames);
            List<Object> all = new ArrayList<>();
            for (int i = 0; i < frames; i++) {
                all.add(Array.get(reel, i));
            }
            Object blank = Array.get(Array.newInstance(reel.getClass().getComponentType(), 1), 0);
            for (int i = 0; i < n; i++) {
                if (open) {
                    all.add(at, blank);
                    all.remove(frames);
                } else {
                    all.remove(at);
                    all.add(blank);
                }
            }
            for (int i = 0; i < frames; i++) {
                Array.set(reel, i, all.get(i));
            }
            binReel = null;
            return frames - at - n;
        }

        int loop(int s, int at, int n, int times) throws Refused {
            want(spindle(s) && 0 <= times && times <= 20, 6);
            for (int k = 1; k <= times; k++) {
                try {
                    splice(s, at, s, at + (long) k * n, n);
                } catch (Refused r) {
                    told(r);
                    return k - 1;
                }
            }
            return times;
        }

        int note(int[] a) {
            if (list.size() == 16) {
                return -1;
            }
            list.add(a.clone());
            return list.size();
        }

        int play() {
            int done = 0;
            while (!list.isEmpty()) {
                int[] a = list.get(0);
                try {
                    splice(a[0], a[1], a[2], a[3], a[4]);
                } catch (Refused r) {
                    told(r);
                    return done;
                }
                list.remove(0);
                done++;
            }
            return done;
        }

        int takeBack() {
            int n = binned();
            if (n > 0) {
                System.arraycopy(binHad, 0, binReel, binPlace, n);
            }
            binReel = null;
            return n;
        }

        int binned() {
            return binReel == null ? 0 : Array.getLength(binHad);
        }

        int counted(int what) {
            return what < 0 || what > 5 ? -1 : what == 3 ? list.size() : what == 4 ? binned() : count[what];
        }

        int refused(int what) {
            return what < 0 || what > 2 ? -1 : refusal[what];
        }

        int seen(int s, int what) {
            Object lying = spindle(s) ? lies[s] : null;
            if (lying == null || what < 0 || what > 2) {
                return -1;
            }
            if (what == 2) {
                int lowest = 0;
                while (lies[lowest] != lying) {
                    lowest++;
                }
                return lowest;
            }
            if (lying instanceof Tag t) {
                return what == 0 ? 8 : t.number();
            }
            return what == 0 ? stockOf(lying) : Array.getLength(lying);
        }

        String held(int s, int frame) {
            if (!spindle(s) || lies[s] == null || lies[s] instanceof Tag) {
                return "throws.IllegalStateException";
            }
            if (frame < 0 || frame >= Array.getLength(lies[s])) {
                return "throws.IndexOutOfBoundsException";
            }
            Object has = Array.get(lies[s], frame);
            if (has == null) {
                return "-1";
            }
            if (has instanceof Shot shot) {
                return String.valueOf(4L * shot.number + (shot instanceof Print ? 2 : shot instanceof Take ? 1 : 0));
            }
            return has instanceof Boolean b ? b ? "1" : "0" : has instanceof Character c ? String.valueOf((int) c)
                : has.toString();
        }

        boolean like(int s, int other) {
            if (!spindle(s) || !spindle(other)) {
                return false;
            }
            Object one = lies[s];
            Object two = lies[other];
            if (one == null || two == null || one.getClass() != two.getClass()) {
                return one == two;
            }
            if (one instanceof Tag t) {
                return t.number() == ((Tag) two).number();
            }
            int frames = Array.getLength(one);
            boolean same = frames == Array.getLength(two);
            for (int i = 0; i < frames && same; i++) {
                Object a = Array.get(one, i);
                Object b = Array.get(two, i);
                same = one instanceof Object[] ? a == b : a.equals(b);
            }
            return same;
        }
    }

    private static final String[] NAMES = {"thread", "tag", "share", "copy", "clear", "put", "shoot", "splice", "open",
        "close", "note", "play", "takeBack", "loop"};
    /** How often each call comes, in the order of NAMES. */
    private static final int[] OFTEN = {5, 1, 3, 3, 1, 12, 16, 20, 4, 4, 8, 3, 8, 6};

    private static int onTable(CuttingTable x, int which, int[] a, long value) {
        switch (which) {
            case 0: return x.thread(a[0], a[1], a[2]);
            case 1: return x.tag(a[0], a[1]);
            case 2: return x.share(a[0], a[1]);
            case 3: return x.copy(a[0], a[1]);
            case 4: return x.clear(a[0]);
            case 5: return x.put(a[0], a[1], value);
            case 6: return x.shoot(a[0], a[1], a[2], a[3]);
            case 7: return x.splice(a[0], a[1], a[2], a[3], a[4]);
            case 8: return x.open(a[0], a[1], a[2]);
            case 9: return x.close(a[0], a[1], a[2]);
            case 10: return x.note(a[0], a[1], a[2], a[3], a[4]);
            case 11: return x.play();
            case 12: return x.takeBack();
            case 13: return x.loop(a[0], a[1], a[2], a[3]);
            default: throw new AssertionError();
        }
    }

    private static String heldOnTable(CuttingTable x, int s, int frame) {
        try {
            return String.valueOf(x.at(s, frame));
        } catch (RuntimeException e) {
            return "throws." + e.getClass().getSimpleName();
        }
    }

    private static int odd(Mixer mixer, int usual) {
        int[] odd = {-1, 8, 24, 25, 21, Integer.MIN_VALUE, Integer.MAX_VALUE, 1 << 30, -9};
        return mixer.below(40) == 0 ? odd[mixer.below(odd.length)] : usual;
    }

    /** Spindles come from few, so that most of them bear a reel; stocks come from few in one run. */
    private static int[] arguments(Mixer mixer, int which, int spindles, int firstStock, int stocks) {
        int s = odd(mixer, mixer.below(spindles));
        int other = odd(mixer, mixer.below(spindles));
        int at = odd(mixer, mixer.below(mixer.below(4) == 0 ? 24 : 6));
        int n = odd(mixer, mixer.below(mixer.below(4) == 0 ? 12 : 4));
        int place = odd(mixer, mixer.below(mixer.below(4) == 0 ? 24 : 6));
        switch (which) {
            case 0: return new int[] {s, odd(mixer, firstStock + mixer.below(stocks)),
                odd(mixer, 6 + mixer.below(19))};
            case 1: return new int[] {s, mixer.below(3) - 1};
            case 6: return new int[] {s, at, odd(mixer, mixer.below(4)), odd(mixer, mixer.below(9))};
            case 8: case 9: return new int[] {s, at, n};
            case 13: return new int[] {s, at, n, odd(mixer, mixer.below(6))};
            case 7: case 10: return new int[] {s, at, other, place, n};
            default: return new int[] {s, which == 5 ? at : other};
        }
    }

    private static int pick(Mixer mixer) {
        int sum = 0;
        for (int often : OFTEN) {
            sum += often;
        }
        int left = mixer.below(sum);
        int which = 0;
        while (left >= OFTEN[which]) {
            left -= OFTEN[which];
            which++;
        }
        return which;
    }

    private static void run(int seed) {
        Mixer mixer = new Mixer(seed);
        CuttingTable x = new CuttingTable();
        Model m = new Model();
        int spindles = 1 + mixer.below(8);
        int firstStock = mixer.below(8);
        int stocks = 1 + mixer.below(8 - firstStock);
        int calls = 1 + mixer.below(MOST_CALLS);
        for (int i = 0; i < calls; i++) {
            int which = i < spindles ? 0 : pick(mixer);
            int[] a = arguments(mixer, which, spindles, firstStock, stocks);
            if (i < spindles) {
                a[0] = i;
            }
            long value = mixer.below(3) == 0 ? mixer.next() : mixer.below(5) - 2;
            String call = "seed " + seed + ", call " + i + ": " + NAMES[which] + Arrays.toString(a);
            Due.is(call, onTable(x, which, a, value), m.call(which, a, value));
        }
        compare("seed " + seed + ", end", x, m);
    }

    private static void compare(String when, CuttingTable x, Model m) {
        for (int what = -1; what < 7; what++) {
            Due.is(when + ": count(" + what + ")", x.count(what), m.counted(what));
            Due.is(when + ": refusal(" + what + ")", x.refusal(what), m.refused(what));
        }
        for (int s = -1; s < 9; s++) {
            for (int what = 0; what < 3; what++) {
                Due.is(when + ": look(" + s + ", " + what + ")", x.look(s, what), m.seen(s, what));
            }
            int frames = m.seen(s, 0) < 8 ? m.seen(s, 1) : 0;
            for (int frame = -1; frame <= frames; frame++) {
                String got = heldOnTable(x, s, frame);
                String due = m.held(s, frame);
                Due.is(when + ": at(" + s + ", " + frame + ") " + got + ", due " + due, got.equals(due), true);
            }
            for (int other = 0; other <= s; other++) {
                Due.is(when + ": alike(" + s + ", " + other + ")", x.alike(s, other), m.like(s, other));
            }
        }
    }

    public static void main(String[] args) {
        for (int seed = 0; seed < RUNS; seed++) {
            run(seed);
        }
        Due.end();
    }
}
