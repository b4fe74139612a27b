/** The limits of 80 sets and 10 rests, the order of refusals, and that a refused call changes nothing. */
public final class LimitsTest {
    private static final Check CHECK = new Check();

    public static void main(String[] args) {
        tooManySets();
        tooManyRests();
        elevenRestsFromEveryMaker();
        manyPlacesFewRests();
        CHECK.finish();
    }

    private static void tooManySets() {
        RestSets x = new RestSets();
        for (int i = 0; i < 80; i++) {
            x.letters(i % 8);
        }
        CHECK.due("letters", Check.FULL, () -> x.letters(7));
        CHECK.due("empty", Check.FULL, x::empty);
        CHECK.due("then", Check.FULL, () -> x.then(0, 79));
        CHECK.due("both", Check.FULL, () -> x.both(3, 79, 0));
        CHECK.due("many", Check.FULL, () -> x.many(79));
        CHECK.due("contrary", Check.FULL, () -> x.contrary(0));
        CHECK.due("back", Check.FULL, () -> x.back(1));
        CHECK.due("rest", Check.FULL, () -> x.rest(1, 2));
        CHECK.due("beginnings", Check.FULL, () -> x.beginnings(1));
        badComesBeforeFull(x);
        CHECK.due("count", 80, x::count);
        for (int i = 0; i < 80; i++) {
            int p = i;
            CHECK.due("size of " + p, Integer.bitCount(p % 8), () -> x.size(p));
            CHECK.due("same as the first", true, () -> x.same(p, p % 8));
            CHECK.due("inside the last", true, () -> x.inside(p, 79));
        }
    }

    private static void badComesBeforeFull(RestSets x) {
        CHECK.due("letters", Check.BAD, () -> x.letters(8));
        CHECK.due("then", Check.BAD, () -> x.then(0, 80));
        CHECK.due("then", Check.BAD, () -> x.then(80, 0));
        CHECK.due("both", Check.BAD, () -> x.both(4, 0, 0));
        CHECK.due("both", Check.BAD, () -> x.both(0, 0, -1));
        CHECK.due("many", Check.BAD, () -> x.many(80));
        CHECK.due("contrary", Check.BAD, () -> x.contrary(-1));
        CHECK.due("back", Check.BAD, () -> x.back(80));
        CHECK.due("rest", Check.BAD, () -> x.rest(0, 3));
        CHECK.due("rest", Check.BAD, () -> x.rest(80, 0));
        CHECK.due("beginnings", Check.BAD, () -> x.beginnings(80));
    }

    private static void tooManyRests() {
        RestSets x = new RestSets();
        int letter = x.letters(2);
        int eight = Words.one(x, "11111111");
        int before = x.count();
        CHECK.due("ten rests", 10, () -> x.rests(eight));
        CHECK.due("eleven", Check.FULL, () -> x.then(eight, letter));
        CHECK.due("eleven", Check.FULL, () -> x.then(letter, eight));
        CHECK.due("far more", Check.FULL, () -> x.then(eight, eight));
        CHECK.due("count", before, x::count);
        CHECK.due("the old set stays", 1, () -> x.words(eight, 8));
        CHECK.due("the next number", before, () -> x.contrary(eight));
        CHECK.due("the new set is whole", true, () -> x.same(x.contrary(before), eight));
    }

    private static void elevenRestsFromEveryMaker() {
        RestSets x = new RestSets();
        int all = x.many(x.letters(7));
        int three = x.many(Words.one(x, "000"));
        int four = x.many(Words.one(x, "0000"));
        CHECK.due("rests in one or the other", Check.FULL, () -> x.both(0, three, four));
        CHECK.due("rests in both", Check.FULL, () -> x.both(1, three, four));
        CHECK.due("rests in the first alone", Check.FULL, () -> x.both(2, three, four));
        CHECK.due("rests in just one", Check.FULL, () -> x.both(3, three, four));
        int two = x.many(Words.one(x, "00"));
        int six = x.both(1, two, three);
        CHECK.due("few enough", 7, () -> x.rests(six));
        // Told by a letter near the start, a set turned round has a rest for each row of last letters.
        int far = x.then(x.then(x.letters(7), x.letters(7)), x.then(x.letters(1), all));
        CHECK.due("told by the third letter", 5, () -> x.rests(far));
        CHECK.due("turned round", 8, () -> x.rests(x.back(far)));
        int farther = x.then(x.letters(7), far);
        CHECK.due("turned round", Check.FULL, () -> x.back(farther));
        int odd = Words.some(x, "222", "121", "12");
        CHECK.due("a few words", 7, () -> x.rests(odd));
        CHECK.due("as many as one likes", Check.FULL, () -> x.many(odd));
    }

    /** Sets with few rests, though the plain way to read them comes to hundreds of places. */
    private static void manyPlacesFewRests() {
        RestSets x = new RestSets();
        int all = x.many(x.letters(7));
        int eight = x.then(Words.one(x, "0120"), Words.one(x, "1021"));
        int scattered = x.both(0, x.contrary(eight), x.empty());
        CHECK.due("ten", 10, () -> x.rests(scattered));
        CHECK.due("all, then a set with the empty word", true, () -> x.same(x.then(all, scattered), all));
        CHECK.due("turned", true, () -> x.same(x.then(scattered, all), all));
        CHECK.due("many", true, () -> x.same(x.many(scattered), all));
        CHECK.due("then itself", true, () -> x.same(x.then(scattered, scattered), all));
    }
}
