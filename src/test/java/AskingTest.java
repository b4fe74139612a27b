/** Promises 11 to 19: the calls that ask about sets. */
public final class AskingTest {
    private static final Check CHECK = new Check();
    private static final int[] NO_SUCH = {-1, 80, 79, Integer.MIN_VALUE, Integer.MAX_VALUE};

    public static void main(String[] args) {
        promise11Has();
        promise12Same();
        promise13Inside();
        promise14Rests();
        promise15Words();
        promise16Shortest();
        promise17Letter();
        promise18Size();
        promise19Count();
        CHECK.finish();
    }

    interface Asked {
        Object of(int p);
    }

    private static void wrongSets(String what, RestSets x, Asked asked) {
        CHECK.due(what + " of set " + x.count(), Check.BAD, () -> asked.of(x.count()));
        for (int p : NO_SUCH) {
            CHECK.due(what + " of set " + p, Check.BAD, () -> asked.of(p));
        }
    }

    private static void promise11Has() {
        RestSets x = new RestSets();
        int p = Words.some(x, "", "0", "012");
        CHECK.due("11: empty", true, () -> x.has(p, 0, 0));
        CHECK.due("11: empty, all bits set", true, () -> x.has(p, 0, -1L));
        CHECK.due("11: 0", true, () -> x.has(p, 1, 0));
        CHECK.due("11: 1", false, () -> x.has(p, 1, 1));
        CHECK.due("11: 012", true, () -> x.has(p, 3, 0b100100));
        CHECK.due("11: 210", false, () -> x.has(p, 3, 0b000110));
        CHECK.due("11: bits above", true, () -> x.has(p, 3, 0b100100 | -1L << 6));
        CHECK.due("11: 3 as the first", Check.BAD, () -> x.has(p, 3, 0b100111));
        CHECK.due("11: 3 as the last", Check.BAD, () -> x.has(p, 3, 0b110100));
        CHECK.due("11: 3 behind the word", true, () -> x.has(p, 1, 0b1100));
        int all = x.many(x.letters(7));
        int twos = x.many(x.letters(4));
        long thirtyTwos = 0x2aaaaaaaaaaaaaaL << 2 | 2;
        CHECK.due("11: 30 letters", true, () -> x.has(twos, 30, thirtyTwos));
        CHECK.due("11: 30 letters, bits above", true, () -> x.has(twos, 30, thirtyTwos | 15L << 60));
        CHECK.due("11: the 30th counts", false, () -> x.has(twos, 30, thirtyTwos ^ 3L << 58));
        CHECK.due("11: the 30th is 3", Check.BAD, () -> x.has(all, 30, 3L << 58));
        CHECK.due("11: the 29th is 3", Check.BAD, () -> x.has(all, 30, 3L << 56));
        for (int n : new int[] {-1, 31, 32, Integer.MIN_VALUE, Integer.MAX_VALUE}) {
            CHECK.due("11: length " + n, Check.BAD, () -> x.has(all, n, 0));
        }
        wrongSets("11: has", x, q -> x.has(q, 0, 0));
    }

    private static void promise12Same() {
        RestSets x = new RestSets();
        int p = Words.some(x, "0", "12", "2");
        int q = Words.some(x, "2", "12", "0");
        int r = Words.some(x, "2", "12", "1");
        CHECK.due("12: other order", true, () -> x.same(p, q));
        CHECK.due("12: itself", true, () -> x.same(p, p));
        CHECK.due("12: other words", false, () -> x.same(p, r));
        CHECK.due("12: contraries", false, () -> x.same(p, x.contrary(p)));
        int all = x.many(x.letters(7));
        int byTwo = x.many(x.then(x.letters(7), x.letters(7)));
        int odd = x.then(byTwo, x.letters(7));
        CHECK.due("12: even and odd lengths", true, () -> x.same(x.both(0, byTwo, odd), all));
        CHECK.due("12: even lengths", false, () -> x.same(byTwo, all));
        CHECK.due("12: as many rests", false, () -> x.same(byTwo, odd));
        int none = x.letters(0);
        CHECK.due("12: none and the empty word", false, () -> x.same(none, x.empty()));
        CHECK.due("12: none", true, () -> x.same(none, x.both(1, byTwo, odd)));
        wrongSets("12: same", x, s -> x.same(s, 0));
        wrongSets("12: same", x, s -> x.same(0, s));
    }

    private static void promise13Inside() {
        RestSets x = new RestSets();
        int p = Words.some(x, "0", "12");
        int q = Words.some(x, "0", "12", "2");
        int none = x.letters(0);
        int all = x.contrary(none);
        CHECK.due("13: smaller", true, () -> x.inside(p, q));
        CHECK.due("13: larger", false, () -> x.inside(q, p));
        CHECK.due("13: itself", true, () -> x.inside(p, p));
        CHECK.due("13: none", true, () -> x.inside(none, p));
        CHECK.due("13: in none", false, () -> x.inside(p, none));
        CHECK.due("13: none in none", true, () -> x.inside(none, none));
        CHECK.due("13: in all", true, () -> x.inside(q, all));
        CHECK.due("13: all", false, () -> x.inside(all, x.contrary(p)));
        int threes = x.many(Words.one(x, "000"));
        int zeros = x.many(x.letters(1));
        CHECK.due("13: endless", true, () -> x.inside(threes, zeros));
        CHECK.due("13: endless, larger", false, () -> x.inside(zeros, threes));
        int before = x.count();
        x.inside(p, q);
        CHECK.due("13: makes nothing", before, x::count);
        wrongSets("13: inside", x, s -> x.inside(s, 0));
        wrongSets("13: inside", x, s -> x.inside(0, s));
    }

    private static void promise14Rests() {
        RestSets x = new RestSets();
        CHECK.due("14: none", 1, () -> x.rests(x.letters(0)));
        CHECK.due("14: all", 1, () -> x.rests(x.contrary(0)));
        CHECK.due("14: empty", 2, () -> x.rests(x.empty()));
        CHECK.due("14: a letter", 3, () -> x.rests(x.letters(5)));
        CHECK.due("14: two words", 4, () -> x.rests(Words.some(x, "01", "21")));
        CHECK.due("14: two words", 5, () -> x.rests(Words.some(x, "01", "20")));
        CHECK.due("14: ten", 10, () -> x.rests(Words.one(x, "00000000")));
        CHECK.due("14: in a ring", 8, () -> x.rests(x.many(Words.one(x, "0121012"))));
        wrongSets("14: rests", x, x::rests);
    }

    private static void promise15Words() {
        RestSets x = new RestSets();
        int p = Words.some(x, "", "0", "1", "11", "221");
        int all = x.many(x.letters(7));
        int[] want = {1, 2, 1, 1, 0};
        for (int n = 0; n < want.length; n++) {
            int length = n;
            CHECK.due("15: length " + n, want[n], () -> x.words(p, length));
        }
        CHECK.due("15: 39", 0, () -> x.words(p, 39));
        CHECK.due("15: all, 39", 4052555153018976267L, () -> x.words(all, 39));
        CHECK.due("15: all, 38", 4052555153018976267L / 3, () -> x.words(all, 38));
        CHECK.due("15: all, 0", 1, () -> x.words(all, 0));
        // No two zeros side by side: each count is twice the two before it.
        int calm = x.contrary(x.then(x.then(all, Words.one(x, "00")), all));
        long one = 1;
        long two = 3;
        for (int n = 0; n < 40; n++) {
            int length = n;
            CHECK.due("15: no 00, length " + n, one, () -> x.words(calm, length));
            long three = 2 * (one + two);
            one = two;
            two = three;
        }
        for (int n : new int[] {-1, 40, 41, Integer.MIN_VALUE, Integer.MAX_VALUE}) {
            CHECK.due("15: length " + n, Check.BAD, () -> x.words(all, n));
        }
        wrongSets("15: words", x, q -> x.words(q, 0));
    }

    private static void promise16Shortest() {
        RestSets x = new RestSets();
        CHECK.due("16: two lengths", 2, () -> x.shortest(Words.some(x, "0120", "21", "111")));
        CHECK.due("16: empty", 0, () -> x.shortest(x.empty()));
        CHECK.due("16: empty and more", 0, () -> x.shortest(x.many(0)));
        CHECK.due("16: long", 8, () -> x.shortest(Words.one(x, "01201201")));
        int ring = x.many(Words.one(x, "0000000"));
        int behind = x.both(2, ring, x.empty());
        CHECK.due("16: once round", 7, () -> x.shortest(behind));
        int none = x.letters(0);
        CHECK.due("16: none", Check.MISSING, () -> x.shortest(none));
        wrongSets("16: shortest", x, x::shortest);
    }

    private static void promise17Letter() {
        RestSets x = new RestSets();
        int p = Words.some(x, "0000", "210", "120", "121", "201");
        int[] want = {1, 2, 0};
        for (int i = 0; i < 3; i++) {
            int at = i;
            CHECK.due("17: letter " + i, want[i], () -> x.letter(p, at));
        }
        int long8 = Words.one(x, "01220112");
        for (int i = 0; i < 8; i++) {
            int at = i;
            CHECK.due("17: letter " + i + " of eight", "01220112".charAt(i), () -> "012".charAt(x.letter(long8, at)));
        }
        int none = x.letters(0);
        int empty = x.empty();
        for (int i : new int[] {-1, 3, 4, 30, Integer.MIN_VALUE, Integer.MAX_VALUE}) {
            CHECK.due("17: letter " + i, Check.MISSING, () -> x.letter(p, i));
            CHECK.due("17: none, letter " + i, Check.MISSING, () -> x.letter(none, i));
            CHECK.due("17: empty, letter " + i, Check.MISSING, () -> x.letter(empty, i));
        }
        CHECK.due("17: none, letter 0", Check.MISSING, () -> x.letter(none, 0));
        CHECK.due("17: empty, letter 0", Check.MISSING, () -> x.letter(empty, 0));
        CHECK.due("17: behind eight", Check.MISSING, () -> x.letter(long8, 8));
        wrongSets("17: letter", x, q -> x.letter(q, 0));
        wrongSets("17: bad before missing", x, q -> x.letter(q, -1));
    }

    private static void promise18Size() {
        RestSets x = new RestSets();
        CHECK.due("18: none", 0, () -> x.size(x.letters(0)));
        CHECK.due("18: empty", 1, () -> x.size(x.empty()));
        CHECK.due("18: three", 3, () -> x.size(x.letters(7)));
        CHECK.due("18: some", 4, () -> x.size(Words.some(x, "", "1", "001", "22")));
        CHECK.due("18: endless", -1, () -> x.size(x.many(x.letters(1))));
        CHECK.due("18: many of the empty word", 1, () -> x.size(x.many(x.empty())));
        CHECK.due("18: a ring that leads nowhere", 0, () -> x.size(x.then(x.many(x.letters(1)), x.letters(0))));
        // The largest set that isn't endless: all words of up to eight letters.
        int short1 = x.both(0, x.letters(7), x.empty());
        int short2 = x.then(short1, short1);
        int short4 = x.then(short2, short2);
        int short8 = x.then(short4, short4);
        CHECK.due("18: the largest", 9841, () -> x.size(short8));
        CHECK.due("18: its contrary", -1, () -> x.size(x.contrary(short8)));
        CHECK.due("18: a long ring", -1, () -> x.size(x.many(Words.one(x, "00000000"))));
        wrongSets("18: size", x, x::size);
    }

    private static void promise19Count() {
        RestSets x = new RestSets();
        for (int made = 0; made < 80; made++) {
            CHECK.due("19: count", made, x::count);
            x.letters(made % 8);
        }
        CHECK.due("19: count", 80, x::count);
        Check.answer(x::empty);
        CHECK.due("19: count when full", 80, x::count);
    }
}
