/** Two tables that are led the same way, but for one call: whether that call has changed anything that can be seen. */
final class Twins {
    interface Calls {
        void on(CuttingTable x);
    }

    private Twins() {
    }

    /** The call changes nothing but, if it is a shoot(), how many shots were made. */
    static void changesNothing(String call, Calls ahead, Calls refused, int shotsMade) {
        CuttingTable one = new CuttingTable();
        CuttingTable two = new CuttingTable();
        ahead.on(one);
        ahead.on(two);
        int shots = one.count(5);
        refused.on(one);
        Due.is(call + ": count(5)", one.count(5), shots + shotsMade);
        same(call, one, two);
        // The bin and the list are seen by what they do.
        Due.is(call + ", takeBack()", one.takeBack(), two.takeBack());
        same(call + ", takeBack()", one, two);
        Due.is(call + ", play()", one.play(), two.play());
        same(call + ", play()", one, two);
    }

    private static void same(String call, CuttingTable one, CuttingTable two) {
        for (int what = 0; what < 5; what++) {
            Due.is(call + ": count(" + what + ")", one.count(what), two.count(what));
        }
        for (int s = 0; s < 8; s++) {
            for (int what = 0; what < 3; what++) {
                Due.is(call + ": look(" + s + ", " + what + ")", one.look(s, what), two.look(s, what));
            }
            int frames = two.look(s, 0) >= 0 && two.look(s, 0) < 8 ? two.look(s, 1) : 0;
            for (int i = 0; i < frames; i++) {
                Due.is(call + ": at(" + s + ", " + i + ")", one.at(s, i), two.at(s, i));
            }
            for (int other = 0; other < s; other++) {
                Due.is(call + ": alike(" + s + ", " + other + ")", one.alike(s, other), two.alike(s, other));
            }
        }
    }
}
