/** What the tests share: compares an answer with the one that is due, and ends the test. */
final class Due {
    private static int wrong = 0;
    private static int asked = 0;
    private static String sentence = "";

    private Due() {
    }

    /** The document's sentence that the answers from here on belong to: it is printed with a wrong one. */
    static void sentence(String words) {
        sentence = "'" + words + "' ";
    }

    static void is(String call, long got, long want) {
        asked++;
        if (got != want) {
            wrong++;
            System.out.println(sentence + call + " answered " + got + ", due is " + want);
        }
    }

    static void is(String call, boolean got, boolean want) {
        is(call, got ? 1 : 0, want ? 1 : 0);
    }

    /** What the frames of a reel have, from frame 0 on, and that it has no more of them. */
    static void frames(String call, CuttingTable x, int spindle, long... want) {
        is(call + ": frames of " + spindle, x.look(spindle, 1), want.length);
        for (int i = 0; i < want.length; i++) {
            is(call + ": at(" + spindle + ", " + i + ")", x.at(spindle, i), want[i]);
        }
    }

    /** The three answers of refusal(). */
    static void refusal(String call, CuttingTable x, int refused, int way, int ahead) {
        is(call + ": refusal(0)", x.refusal(0), refused);
        is(call + ": refusal(1)", x.refusal(1), way);
        is(call + ": refusal(2)", x.refusal(2), ahead);
    }

    /** The six answers of count(). */
    static void counts(String call, CuttingTable x, int... want) {
        for (int i = 0; i < want.length; i++) {
            is(call + ": count(" + i + ")", x.count(i), want[i]);
        }
    }

    /** 1 IllegalStateException, 2 IndexOutOfBoundsException, 3 another one, 0 nothing. */
    static void atThrows(CuttingTable x, int spindle, int frame, int want) {
        int got = 0;
        try {
            x.at(spindle, frame);
        } catch (RuntimeException e) {
            got = e.getClass() == IllegalStateException.class ? 1
                : e.getClass() == IndexOutOfBoundsException.class ? 2 : 3;
        }
        is("at(" + spindle + ", " + frame + ") throws", got, want);
    }

    /** A table with a reel on spindle 0 whose frames are given by put(). */
    static CuttingTable withNumbers(int stock, long... values) {
        CuttingTable x = new CuttingTable();
        threadNumbers(x, 0, stock, values);
        return x;
    }

    static void threadNumbers(CuttingTable x, int spindle, int stock, long... values) {
        x.thread(spindle, stock, values.length);
        for (int i = 0; i < values.length; i++) {
            x.put(spindle, i, values[i]);
        }
    }

    /** A reel on a spindle with shots of these kinds, numbered 10, 11 .. (kind 3: nothing). */
    static void threadShots(CuttingTable x, int spindle, int stock, int... kinds) {
        x.thread(spindle, stock, kinds.length);
        for (int i = 0; i < kinds.length; i++) {
            x.shoot(spindle, i, kinds[i], 10 + i);
        }
    }

    static void end() {
        System.out.println(asked + " answers, " + wrong + " not as due");
        if (wrong != 0 || asked == 0) {
            System.exit(1);
        }
    }
}
