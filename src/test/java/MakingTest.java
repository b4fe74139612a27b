/** Promises 1 to 10: a new object and the calls that make a set. */
public final class MakingTest {
    private static final Check CHECK = new Check();

    public static void main(String[] args) {
        promise1NewObject();
        promise2Letters();
        promise3Empty();
        promise4Then();
        promise5Both();
        promise6Many();
        promise7Contrary();
        promise8Back();
        promise9Rest();
        promise10Beginnings();
        CHECK.finish();
    }

    private static void holds(RestSets x, int p, String want) {
        CHECK.due("the short words of set " + p, want, () -> Words.upToThree(x, p));
    }

    private static void promise1NewObject() {
        RestSets x = new RestSets();
        CHECK.due("1: count", 0, x::count);
        CHECK.due("1: rests(0)", Check.BAD, () -> x.rests(0));
        RestSets y = new RestSets();
        x.empty();
        CHECK.due("1: objects are apart", 0, y::count);
    }

    private static void promise2Letters() {
        RestSets x = new RestSets();
        String[] want = {"", "0", "1", "0 1", "2", "0 2", "1 2", "0 1 2"};
        for (int bits = 0; bits < 8; bits++) {
            int b = bits;
            CHECK.due("2: letters " + b, b, () -> x.letters(b));
            holds(x, b, want[b]);
        }
        for (int bits : new int[] {-1, 8, 9, 16, Integer.MIN_VALUE, Integer.MAX_VALUE}) {
            CHECK.due("2: letters " + bits, Check.BAD, () -> x.letters(bits));
        }
        CHECK.due("2: count", 8, x::count);
        CHECK.due("2: a second one alike", 8, () -> x.letters(3));
        CHECK.due("2: is the same", true, () -> x.same(3, 8));
    }

    private static void promise3Empty() {
        RestSets x = new RestSets();
        CHECK.due("3: empty", 0, x::empty);
        holds(x, 0, "-");
        CHECK.due("3: empty again", 1, x::empty);
        CHECK.due("3: size", 1, () -> x.size(1));
    }

    private static void promise4Then() {
        RestSets x = new RestSets();
        int p = Words.some(x, "0", "01");
        int q = Words.some(x, "2", "12");
        int pq = x.then(p, q);
        holds(x, pq, "02 012");
        CHECK.due("4: the longer one", true, () -> Words.in(x, pq, "0112"));
        CHECK.due("4: size", 3, () -> x.size(pq));
        holds(x, x.then(q, p), "20 120 201");
        int none = x.letters(0);
        holds(x, x.then(p, none), "");
        holds(x, x.then(none, p), "");
        int empty = x.empty();
        CHECK.due("4: behind the empty word", true, () -> x.same(x.then(empty, p), p));
        CHECK.due("4: before the empty word", true, () -> x.same(x.then(p, empty), p));
        holds(x, x.then(p, p), "00 001 010");
        int all = x.contrary(none);
        CHECK.due("4: all, then all", true, () -> x.same(x.then(all, all), all));
        wrongPairs(x, "4: then", x::then);
    }

    interface Pair {
        int make(int p, int q);
    }

    private static void wrongPairs(RestSets x, String what, Pair call) {
        int n = x.count();
        int[][] pairs = {{-1, 0}, {0, -1}, {n, 0}, {0, n}, {80, 0}, {0, 80},
            {Integer.MIN_VALUE, 0}, {0, Integer.MAX_VALUE}};
        for (int[] pair : pairs) {
            CHECK.due(what + " " + pair[0] + " " + pair[1], Check.BAD, () -> call.make(pair[0], pair[1]));
        }
        CHECK.due(what + ": count", n, x::count);
    }

    interface Single {
        int make(int p);
    }

    private static void wrongSingles(RestSets x, String what, Single call) {
        wrongPairs(x, what, (p, q) -> call.make(p == 0 ? q : p));
    }

    private static void promise5Both() {
        RestSets x = new RestSets();
        int p = Words.some(x, "", "0", "12");
        int q = Words.some(x, "0", "2", "111");
        holds(x, x.both(0, p, q), "- 0 2 12 111");
        holds(x, x.both(1, p, q), "0");
        holds(x, x.both(2, p, q), "- 12");
        holds(x, x.both(2, q, p), "2 111");
        holds(x, x.both(3, p, q), "- 2 12 111");
        holds(x, x.both(0, p, p), "- 0 12");
        holds(x, x.both(1, p, p), "- 0 12");
        holds(x, x.both(2, p, p), "");
        holds(x, x.both(3, p, p), "");
        for (int how : new int[] {-1, 4, 5, Integer.MIN_VALUE, Integer.MAX_VALUE}) {
            CHECK.due("5: how " + how, Check.BAD, () -> x.both(how, p, q));
        }
        for (int how = 0; how < 4; how++) {
            int h = how;
            wrongPairs(x, "5: both " + h, (a, b) -> x.both(h, a, b));
        }
    }

    private static void promise6Many() {
        RestSets x = new RestSets();
        int p = Words.some(x, "0", "12");
        int many = x.many(p);
        holds(x, many, "- 0 00 12 000 012 120");
        CHECK.due("6: long one in", true, () -> Words.in(x, many, "0120121200"));
        CHECK.due("6: long one out", false, () -> Words.in(x, many, "0120121201"));
        holds(x, x.many(x.letters(0)), "-");
        holds(x, x.many(x.empty()), "-");
        CHECK.due("6: twice is once", true, () -> x.same(x.many(many), many));
        // Words may come back to the set's own start without having ended.
        int loop = x.then(x.many(Words.one(x, "01")), x.letters(4));
        holds(x, x.many(loop), "- 2 22 012 222");
        wrongSingles(x, "6: many", x::many);
    }

    private static void promise7Contrary() {
        RestSets x = new RestSets();
        int all = x.contrary(x.letters(0));
        CHECK.due("7: all", 27, () -> x.words(all, 3));
        int p = x.contrary(x.many(x.letters(3)));
        holds(x, p, "2 02 12 20 21 22 002 012 020 021 022 102 112 120 121 122 "
            + "200 201 202 210 211 212 220 221 222");
        CHECK.due("7: twice", true, () -> x.same(x.contrary(p), x.many(x.letters(3))));
        CHECK.due("7: of all", 0, () -> x.size(x.contrary(all)));
        wrongSingles(x, "7: contrary", x::contrary);
    }

    private static void promise8Back() {
        RestSets x = new RestSets();
        int p = Words.some(x, "", "01", "122", "00");
        holds(x, x.back(p), "- 00 10 221");
        CHECK.due("8: twice", true, () -> x.same(x.back(x.back(p)), p));
        CHECK.due("8: of none", 0, () -> x.size(x.back(x.letters(0))));
        int ends = x.then(x.many(x.letters(7)), Words.one(x, "01"));
        int starts = x.then(Words.one(x, "10"), x.many(x.letters(7)));
        CHECK.due("8: endless", true, () -> x.same(x.back(ends), starts));
        wrongSingles(x, "8: back", x::back);
    }

    private static void promise9Rest() {
        RestSets x = new RestSets();
        int p = Words.some(x, "", "0", "01", "122", "021");
        holds(x, x.rest(p, 0), "- 1 21");
        holds(x, x.rest(p, 1), "22");
        holds(x, x.rest(p, 2), "");
        int all = x.contrary(x.letters(0));
        CHECK.due("9: of all", true, () -> x.same(x.rest(all, 2), all));
        for (int letter : new int[] {-1, 3, 4, Integer.MIN_VALUE, Integer.MAX_VALUE}) {
            CHECK.due("9: letter " + letter, Check.BAD, () -> x.rest(p, letter));
        }
        for (int letter = 0; letter < 3; letter++) {
            int l = letter;
            wrongSingles(x, "9: rest", q -> x.rest(q, l));
        }
    }

    private static void promise10Beginnings() {
        RestSets x = new RestSets();
        int p = Words.some(x, "01", "122");
        holds(x, x.beginnings(p), "- 0 1 01 12 122");
        holds(x, x.beginnings(x.letters(0)), "");
        holds(x, x.beginnings(x.empty()), "-");
        int odd = x.then(x.many(Words.one(x, "01")), x.letters(1));
        holds(x, x.beginnings(odd), "- 0 01 010");
        int late = x.then(x.many(x.letters(7)), Words.one(x, "22"));
        CHECK.due("10: all begin one", true, () -> x.same(x.beginnings(late), x.many(x.letters(7))));
        wrongSingles(x, "10: beginnings", x::beginnings);
    }
}
