/** What an object tells of its sets, a line each, to see that two objects hold the same. */
final class State {
    private State() {
    }

    /** Four calls a set, so that even 80 sets are told within an object's 512 calls. */
    static String[] brief(RestSets x) {
        String[] told = new String[x.count()];
        for (int p = 0; p < told.length; p++) {
            int set = p;
            told[p] = p + ": rests " + x.rests(p) + " size " + x.size(p)
                + " shortest " + Check.answer(() -> x.shortest(set))
                + " letter " + Check.answer(() -> x.letter(set, 0));
        }
        return told;
    }

    /** Also words by length and the earlier sets that are the same: for a few sets only. */
    static String[] whole(RestSets x) {
        String[] told = brief(x);
        for (int p = 0; p < told.length; p++) {
            told[p] += " words " + x.words(p, 2) + " " + x.words(p, 3) + " " + x.words(p, 39);
            for (int q = 0; q < p; q++) {
                told[p] += x.same(p, q) ? " same as " + q : "";
            }
        }
        return told;
    }
}
