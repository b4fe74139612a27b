import java.math.BigInteger;

/** Promises 1 to 19: for each sentence that names a boundary a check of its own. */
public final class EdgesTest {
    private static final Check CHECK = new Check();
    private static final int LOWEST = Integer.MIN_VALUE;
    private static final int HIGHEST = Integer.MAX_VALUE;

    public static void main(String[] args) {
        noSets();
        bitsZeroToTwo();
        otherBitsAreBad();
        noBitsNoWord();
        theEmptyWordAlone();
        oneThenAnother();
        bothByHow();
        manyAlsoNone();
        allThatAreNotInIt();
        readFromItsEnd();
        restByOneLetter();
        beginningsAlsoThemselves();
        beginningsAlsoTheEmptyOne();
        hasAtTheEdges();
        sameAtTheEdges();
        insideAtTheEdges();
        restsFrom1To10();
        wordsOfLength0To39();
        shortestFrom0To9();
        shortestOfNone();
        theFirstOfItsShortest();
        letterNotThere();
        sizeNotEndless();
        sizeEndless();
        sizeNeverVast();
        countOfSets();
        CHECK.finish();
    }

    private static int all(RestSets x) {
        return x.many(x.letters(7));
    }

    /** Makes the words whose length is a multiple of ten: ten rests, each with words. */
    private static int tens(RestSets x) {
        return x.both(1, x.many(Words.rows(x, 7, 2)), x.many(Words.rows(x, 7, 5)));
    }

    private static void sameDue(RestSets x, String what, int want, int got) {
        CHECK.due(what, true, () -> x.same(want, got));
    }

    private static void noSets() {
        CHECK.about("1: No SETS");
        RestSets x = new RestSets();
        CHECK.due("count", 0, x::count);
        for (int p : new int[] {-1, 0, 1}) {
            Calls.ofSets().forEach((name, call) -> CHECK.due(name + ", p " + p, Check.BAD, () -> call.run(x, p)));
        }
        CHECK.due("count", 0, x::count);
        CHECK.due("the first", 0, x::empty);
        CHECK.due("a second new object", 0, () -> new RestSets().count());
    }

    private static void bitsZeroToTwo() {
        CHECK.about("2: The WORDS of one LETTER that bits 0 .. 2 tell");
        RestSets x = new RestSets();
        for (int bits = 0; bits < 8; bits++) {
            int p = x.letters(bits);
            for (int letter = 0; letter < 3; letter++) {
                int l = letter;
                CHECK.due("bits " + bits + ", letter " + l, (bits >> l & 1) == 1, () -> x.has(p, 1, l));
            }
            CHECK.due("bits " + bits + ", no empty word", 0, () -> x.words(p, 0));
            CHECK.due("bits " + bits + ", of one letter", Integer.bitCount(bits), () -> x.words(p, 1));
            CHECK.due("bits " + bits + ", no longer one", Integer.bitCount(bits), () -> x.size(p));
        }
    }

    private static void otherBitsAreBad() {
        CHECK.about("2: others: bad");
        RestSets x = new RestSets();
        for (int k = 3; k < 32; k++) {
            int bit = 1 << k;
            CHECK.due("bit " + k, Check.BAD, () -> x.letters(bit));
            CHECK.due("bits " + k + " and 0", Check.BAD, () -> x.letters(bit | 1));
            CHECK.due("bits " + k + " and 0 .. 2", Check.BAD, () -> x.letters(bit | 7));
        }
        CHECK.due("all bits", Check.BAD, () -> x.letters(-1));
        CHECK.due("just above", Check.BAD, () -> x.letters(8));
        CHECK.due("the highest that is good", 0, () -> x.letters(7));
    }

    private static void noBitsNoWord() {
        CHECK.about("2: 0: no WORD at all");
        RestSets x = new RestSets();
        int none = x.letters(0);
        CHECK.due("size", 0, () -> x.size(none));
        CHECK.due("the empty word", false, () -> x.has(none, 0, 0));
        CHECK.due("shortest", Check.MISSING, () -> x.shortest(none));
        for (int n = 0; n < 40; n++) {
            int length = n;
            CHECK.due("words of length " + n, 0, () -> x.words(none, length));
        }
    }

    private static void theEmptyWordAlone() {
        CHECK.about("3: The empty WORD alone");
        RestSets x = new RestSets();
        int empty = x.empty();
        CHECK.due("has it", true, () -> x.has(empty, 0, 0));
        CHECK.due("size", 1, () -> x.size(empty));
        CHECK.due("length 0", 1, () -> x.words(empty, 0));
        for (int n = 1; n < 40; n++) {
            int length = n;
            CHECK.due("length " + n, 0, () -> x.words(empty, length));
        }
    }

    private static void oneThenAnother() {
        CHECK.about("4: A WORD of one SET, then one of another one");
        RestSets x = new RestSets();
        int none = x.letters(0);
        int empty = x.empty();
        int all = all(x);
        int p = Words.some(x, "0", "12");
        int withEmpty = x.both(0, p, empty);
        for (int q : new int[] {none, empty, all, p, withEmpty}) {
            sameDue(x, "none, then " + q, none, x.then(none, q));
            sameDue(x, q + ", then none", none, x.then(q, none));
            sameDue(x, "empty, then " + q, q, x.then(empty, q));
            sameDue(x, q + ", then empty", q, x.then(q, empty));
        }
        sameDue(x, "all, then all", all, x.then(all, all));
        sameDue(x, "all, then one with the empty word", all, x.then(all, withEmpty));
        sameDue(x, "one with the empty word, then all", all, x.then(withEmpty, all));
        int twice = x.then(withEmpty, withEmpty);
        CHECK.due("one set twice", "- 0 00 12 012 120", () -> Words.upToThree(x, twice));
        CHECK.due("one set twice", 7, () -> x.size(twice));
    }

    private static void bothByHow() {
        CHECK.about("5: one or the other (0), both (1), the first alone (2), just one (3)");
        RestSets x = new RestSets();
        int none = x.letters(0);
        int all = all(x);
        int empty = x.empty();
        int more = x.contrary(empty);
        // For each how: none with none, none with all, all with none, all with all.
        int[][] want = {
            {none, all, all, all}, {none, none, none, all}, {none, none, all, none}, {none, all, all, none}};
        for (int how = 0; how < 4; how++) {
            sameDue(x, how + ": none, none", want[how][0], x.both(how, none, none));
            sameDue(x, how + ": none, all", want[how][1], x.both(how, none, all));
            sameDue(x, how + ": all, none", want[how][2], x.both(how, all, none));
            sameDue(x, how + ": all, all", want[how][3], x.both(how, all, all));
        }
        sameDue(x, "0: with its contrary", all, x.both(0, empty, more));
        sameDue(x, "1: with its contrary", none, x.both(1, empty, more));
        sameDue(x, "2: the empty word alone", empty, x.both(2, all, more));
        sameDue(x, "2: turned", none, x.both(2, more, all));
        sameDue(x, "3: the empty word alone", empty, x.both(3, more, all));
        for (int how : new int[] {-1, 4, LOWEST, HIGHEST}) {
            CHECK.due("how " + how, Check.BAD, () -> x.both(how, none, all));
        }
    }

    private static void manyAlsoNone() {
        CHECK.about("6: as many as one likes, also none");
        RestSets x = new RestSets();
        int none = x.letters(0);
        int empty = x.empty();
        int all = all(x);
        sameDue(x, "of no word", empty, x.many(none));
        sameDue(x, "of the empty word", empty, x.many(empty));
        sameDue(x, "of all", all, x.many(all));
        sameDue(x, "of all but the empty word", all, x.many(x.contrary(empty)));
        int pairs = x.many(Words.one(x, "12"));
        sameDue(x, "of itself", pairs, x.many(pairs));
        for (int times = 0; times <= 15; times++) {
            String word = "12".repeat(times);
            CHECK.due(times + " times", true, () -> Words.in(x, pairs, word));
            CHECK.due(times + " times and 1", false, () -> Words.in(x, pairs, word.length() < 30 ? word + "1" : "21"));
        }
        CHECK.due("also none", true, () -> x.has(pairs, 0, 0));
    }

    private static void allThatAreNotInIt() {
        CHECK.about("7: All WORDS that aren't in it");
        RestSets x = new RestSets();
        int none = x.letters(0);
        int all = all(x);
        int empty = x.empty();
        sameDue(x, "of none", all, x.contrary(none));
        sameDue(x, "of all", none, x.contrary(all));
        int more = x.contrary(empty);
        CHECK.due("of the empty word: none of length 0", 0, () -> x.words(more, 0));
        CHECK.due("of the empty word: all of length 1", 3, () -> x.words(more, 1));
        CHECK.due("of the empty word: a longest one", true, () -> x.has(more, 30, 0));
        sameDue(x, "twice", empty, x.contrary(more));
        int eight = Words.rows(x, 1, 8);
        sameDue(x, "twice, of ten rests", eight, x.contrary(x.contrary(eight)));
    }

    private static void readFromItsEnd() {
        CHECK.about("8: Its WORDS, each read from its end");
        RestSets x = new RestSets();
        int none = x.letters(0);
        int empty = x.empty();
        int all = all(x);
        sameDue(x, "none", none, x.back(none));
        sameDue(x, "the empty word", empty, x.back(empty));
        sameDue(x, "all", all, x.back(all));
        sameDue(x, "a letter", x.letters(4), x.back(x.letters(4)));
        int word = Words.one(x, "00120212");
        int turned = x.back(word);
        CHECK.due("the word turned", true, () -> Words.in(x, turned, "21202100"));
        CHECK.due("it alone", 1, () -> x.size(turned));
        sameDue(x, "twice", word, x.back(turned));
        int first = x.then(x.letters(1), all);
        sameDue(x, "the first becomes the last", x.then(all, x.letters(1)), x.back(first));
    }

    private static void restByOneLetter() {
        CHECK.about("9: Its REST by a WORD of one LETTER");
        RestSets x = new RestSets();
        int none = x.letters(0);
        int empty = x.empty();
        int all = all(x);
        int ones = x.letters(2);
        for (int letter = 0; letter < 3; letter++) {
            sameDue(x, "none by " + letter, none, x.rest(none, letter));
            sameDue(x, "the empty word by " + letter, none, x.rest(empty, letter));
            sameDue(x, "all by " + letter, all, x.rest(all, letter));
            sameDue(x, "1 by " + letter, letter == 1 ? empty : none, x.rest(ones, letter));
        }
        int p = Words.one(x, "01201201");
        for (int k = 0; k < 8; k++) {
            p = x.rest(p, k % 3);
        }
        sameDue(x, "eight letters, one by one", empty, p);
        for (int letter : new int[] {-1, 3, LOWEST, HIGHEST}) {
            CHECK.due("by " + letter, Check.BAD, () -> x.rest(all, letter));
            CHECK.due("none by " + letter, Check.BAD, () -> x.rest(none, letter));
        }
    }

    private static void beginningsAlsoThemselves() {
        CHECK.about("10: All beginnings of its WORDS (also themselves)");
        RestSets x = new RestSets();
        int word = Words.one(x, "01201202");
        int begun = x.beginnings(word);
        for (int n = 0; n <= 8; n++) {
            int length = n;
            CHECK.due("one of length " + n, 1, () -> x.words(begun, length));
            CHECK.due("the beginning of length " + n, true, () -> Words.in(x, begun, "01201202".substring(0, length)));
        }
        CHECK.due("no longer ones", 9, () -> x.size(begun));
        CHECK.due("the words themselves", true, () -> x.inside(word, begun));
        sameDue(x, "twice", begun, x.beginnings(begun));
        int all = all(x);
        sameDue(x, "all", all, x.beginnings(all));
        sameDue(x, "every word begins one", all, x.beginnings(x.then(all, x.letters(1))));
    }

    private static void beginningsAlsoTheEmptyOne() {
        CHECK.about("10: and the empty one if there's a WORD at all");
        RestSets x = new RestSets();
        int none = x.letters(0);
        int empty = x.empty();
        sameDue(x, "no word at all", none, x.beginnings(none));
        sameDue(x, "the empty word", empty, x.beginnings(empty));
        int letter = x.letters(1);
        CHECK.due("not in the set", false, () -> x.has(letter, 0, 0));
        CHECK.due("in its beginnings", true, () -> x.has(x.beginnings(letter), 0, 0));
        int nowhere = x.then(x.many(letter), none);
        CHECK.due("no word at all, made from others", 0, () -> x.size(x.beginnings(nowhere)));
    }

    private static void hasAtTheEdges() {
        CHECK.about("11: Whether a WORD is in it");
        RestSets x = new RestSets();
        int tens = tens(x);
        for (int n = 0; n <= 30; n++) {
            int length = n;
            CHECK.due("length " + n, n % 10 == 0, () -> x.has(tens, length, 0x2aaaaaaaaaaaaaaaL));
        }
        CHECK.due("no such length", Check.BAD, () -> x.has(tens, -1, 0));
        CHECK.due("no such length", Check.BAD, () -> x.has(tens, 31, 0));
        CHECK.due("no such letter", Check.BAD, () -> x.has(tens, 30, 3L << 58));
    }

    private static void sameAtTheEdges() {
        CHECK.about("12: Whether two SETS have the same WORDS");
        RestSets x = new RestSets();
        int none = x.letters(0);
        int empty = x.empty();
        int all = all(x);
        int[] apart = {none, empty, all, x.contrary(empty), x.letters(1), x.letters(2), x.letters(7)};
        for (int p : apart) {
            for (int q : apart) {
                CHECK.due("sets " + p + " and " + q, p == q, () -> x.same(p, q));
            }
        }
        oneLoopApart();
        int sevens = x.many(Words.rows(x, 7, 7));
        int later = x.both(2, sevens, empty);
        CHECK.due("they differ in the empty word alone", false, () -> x.same(sevens, later));
        int eight = Words.rows(x, 1, 8);
        int alsoSeven = Words.rows(x, 1, 7, 8);
        CHECK.due("they differ in one word alone", false, () -> x.same(eight, alsoSeven));
        CHECK.due("though they have as many rests", 10, () -> x.rests(alsoSeven));
        sameDue(x, "made in another way", eight, x.both(2, alsoSeven, Words.rows(x, 1, 7)));
    }

    /** Words with a letter that bits don't tell: two rests each, and no two sets with the same loops. */
    private static void oneLoopApart() {
        RestSets x = new RestSets();
        int[] sets = new int[8];
        for (int bits = 0; bits < 8; bits++) {
            sets[bits] = x.contrary(x.many(x.letters(bits)));
        }
        for (int p = 0; p < 8; p++) {
            for (int q = 0; q < 8; q++) {
                int a = sets[p];
                int b = sets[q];
                CHECK.due("letters " + p + " and " + q, p == q, () -> x.same(a, b));
            }
        }
    }

    private static void insideAtTheEdges() {
        CHECK.about("13: Whether all WORDS of p are in q");
        RestSets x = new RestSets();
        int none = x.letters(0);
        int empty = x.empty();
        int all = all(x);
        int more = x.contrary(empty);
        int[] sets = {none, empty, more, all};
        for (int p = 0; p < 4; p++) {
            for (int q = 0; q < 4; q++) {
                // The four are told by two bits: whether the empty word is in, whether the others are.
                boolean want = (p & ~q) == 0;
                int a = sets[p];
                int b = sets[q];
                CHECK.due(a + " inside " + b, want, () -> x.inside(a, b));
            }
        }
        insideByLetters();
        int sevens = x.both(2, x.many(Words.rows(x, 7, 7)), empty);
        int tens = tens(x);
        CHECK.due("the first word outside has 70 letters", false, () -> x.inside(tens, x.contrary(sevens)));
        CHECK.due("turned", false, () -> x.inside(sevens, x.contrary(tens)));
        CHECK.due("no word outside", true, () -> x.inside(tens, x.contrary(x.rest(tens, 0))));
    }

    private static void insideByLetters() {
        RestSets x = new RestSets();
        for (int bits = 0; bits < 8; bits++) {
            x.letters(bits);
        }
        for (int p = 0; p < 8; p++) {
            for (int q = 0; q < 8; q++) {
                int a = p;
                int b = q;
                CHECK.due("letters " + a + " inside " + b, (a & ~b) == 0, () -> x.inside(a, b));
            }
        }
    }

    private static void restsFrom1To10() {
        CHECK.about("14: How many RESTS it has that aren't the same");
        RestSets x = new RestSets();
        CHECK.due("no word", 1, () -> x.rests(x.letters(0)));
        CHECK.due("all words", 1, () -> x.rests(all(x)));
        int letter = x.letters(5);
        int row = x.empty();
        for (int n = 0; n <= 8; n++) {
            int p = row;
            CHECK.due("rows of " + n, n + 2, () -> x.rests(p));
            row = n < 8 ? x.then(row, letter) : row;
        }
        CHECK.due("a ring of ten", 10, () -> x.rests(tens(x)));
        CHECK.due("as many behind one letter", 10, () -> x.rests(x.rest(tens(x), 1)));
    }

    private static void wordsOfLength0To39() {
        CHECK.about("15: How many of its WORDS have length n (0 .. 39)");
        RestSets x = new RestSets();
        int all = all(x);
        int two = x.many(x.letters(3));
        int tens = tens(x);
        for (int n = 0; n <= 39; n++) {
            int length = n;
            BigInteger every = BigInteger.valueOf(3).pow(n);
            CHECK.due("all, length " + n, every, () -> x.words(all, length));
            CHECK.due("two letters, length " + n, 1L << n, () -> x.words(two, length));
            CHECK.due("a ring, length " + n, n % 10 == 0 ? every : 0, () -> x.words(tens, length));
        }
        for (int n : new int[] {-1, -39, 40, 41, LOWEST, HIGHEST}) {
            CHECK.due("length " + n, Check.BAD, () -> x.words(all, n));
            CHECK.due("length " + n, Check.BAD, () -> x.words(tens, n));
        }
    }

    private static void shortestFrom0To9() {
        CHECK.about("16: The length of its shortest WORD");
        RestSets x = new RestSets();
        int letter = x.letters(7);
        int p = x.many(letter);
        for (int n = 0; n <= 9; n++) {
            int atLeast = p;
            int length = n;
            CHECK.due("words of at least " + n, n, () -> x.shortest(atLeast));
            CHECK.due("no shorter one", 0, () -> length == 0 ? 0 : x.words(atLeast, length - 1));
            p = n < 9 ? x.then(p, letter) : p;
        }
        CHECK.due("the empty word", 0, () -> x.shortest(x.empty()));
        CHECK.due("the empty word and others", 0, () -> x.shortest(x.many(letter)));
    }

    private static void shortestOfNone() {
        CHECK.about("16: None: missing");
        RestSets x = new RestSets();
        int none = x.letters(0);
        int[] ways = {none, x.then(x.letters(7), none), x.both(2, none, x.empty()), x.contrary(all(x)),
            x.back(none), x.rest(x.letters(1), 2), x.beginnings(none)};
        for (int p : ways) {
            CHECK.due("set " + p, Check.MISSING, () -> x.shortest(p));
        }
        CHECK.due("many of none has one", 0, () -> x.shortest(x.many(none)));
    }

    private static void theFirstOfItsShortest() {
        CHECK.about("17: LETTER i of the first one of its shortest WORDS (by LETTERS, the first that differ)");
        firstShortest("02", "02", "10");
        firstShortest("1", "00", "1");
        firstShortest("2", "2", "00", "11");
        firstShortest("0122", "0122", "0200", "1000");
        firstShortest("2100", "2100", "2101", "2210");
        firstShortest("011", "011", "012", "0100");
        RestSets x = new RestSets();
        int letter = x.letters(6);
        int p = x.many(x.letters(7));
        for (int n = 0; n < 9; n++) {
            p = x.then(p, letter);
        }
        int nine = p;
        for (int i = 0; i < 9; i++) {
            int at = i;
            CHECK.due("nine letters, letter " + i, 1, () -> x.letter(nine, at));
        }
        CHECK.due("nine letters, letter 9", Check.MISSING, () -> x.letter(nine, 9));
    }

    private static void firstShortest(String want, String... words) {
        RestSets x = new RestSets();
        int p = Words.some(x, words);
        for (int i = 0; i < want.length(); i++) {
            int at = i;
            CHECK.due("letter " + i + " for " + want, want.substring(i, i + 1), () -> x.letter(p, at));
        }
        CHECK.due("behind " + want, Check.MISSING, () -> x.letter(p, want.length()));
    }

    private static void letterNotThere() {
        CHECK.about("17: Not there: missing");
        RestSets x = new RestSets();
        int none = x.letters(0);
        int empty = x.empty();
        int all = all(x);
        int three = Words.rows(x, 4, 3);
        for (int i : new int[] {0, 1, 9, 10, 30, -1, -2, LOWEST, HIGHEST}) {
            CHECK.due("no word, letter " + i, Check.MISSING, () -> x.letter(none, i));
            CHECK.due("the empty word, letter " + i, Check.MISSING, () -> x.letter(empty, i));
            CHECK.due("all words, letter " + i, Check.MISSING, () -> x.letter(all, i));
        }
        for (int i : new int[] {3, 4, 9, 10, 30, -1, -2, LOWEST, HIGHEST}) {
            CHECK.due("222, letter " + i, Check.MISSING, () -> x.letter(three, i));
        }
        CHECK.due("222, letter 2", 2, () -> x.letter(three, 2));
    }

    private static void sizeNotEndless() {
        CHECK.about("18: How many WORDS it has");
        RestSets x = new RestSets();
        int none = x.letters(0);
        int empty = x.empty();
        CHECK.due("none", 0, () -> x.size(none));
        CHECK.due("the empty word", 1, () -> x.size(empty));
        CHECK.due("many of no word", 1, () -> x.size(x.many(none)));
        CHECK.due("many of the empty word", 1, () -> x.size(x.many(empty)));
        // With ten rests a set that isn't endless has no longer words than eight letters.
        int upToOne = x.both(0, x.letters(7), empty);
        int upTo = empty;
        int want = 1;
        int power = 1;
        for (int n = 1; n <= 8; n++) {
            upTo = x.then(upTo, upToOne);
            power *= 3;
            want += power;
            int p = upTo;
            CHECK.due("all of up to " + n, want, () -> x.size(p));
        }
        int largest = upTo;
        CHECK.due("one more letter has too many rests", Check.FULL, () -> x.then(largest, upToOne));
        CHECK.due("rings that lead nowhere", 0, () -> x.size(x.then(x.many(upToOne), none)));
        CHECK.due("a ring behind which nothing ends", 1, () -> x.size(x.both(1, x.many(x.letters(1)), empty)));
    }

    private static void sizeEndless() {
        CHECK.about("18: -1: endless many");
        RestSets x = new RestSets();
        int tens = tens(x);
        CHECK.due("all", -1, () -> x.size(all(x)));
        CHECK.due("of one letter", -1, () -> x.size(x.many(x.letters(4))));
        CHECK.due("lengths 0 10 20", -1, () -> x.size(tens));
        int nines = x.rest(tens, 0);
        CHECK.due("lengths 9 19 29", -1, () -> x.size(nines));
        CHECK.due("lengths 8 18 28", -1, () -> x.size(x.rest(nines, 0)));
        CHECK.due("a ring of eight and none", -1, () -> x.size(x.many(Words.rows(x, 1, 8))));
        int eight = Words.rows(x, 1, 8);
        CHECK.due("all but one", -1, () -> x.size(x.contrary(eight)));
        int letter = x.letters(2);
        int late = x.many(letter);
        for (int n = 0; n < 8; n++) {
            late = x.then(late, letter);
        }
        int p = late;
        CHECK.due("at least eight letters", -1, () -> x.size(p));
        CHECK.due("at least eight letters: rests", 10, () -> x.rests(p));
    }

    /** Ten rests hold 9841 words or endless many, so that no set answers -2. */
    private static void sizeNeverVast() {
        CHECK.about("18: -2: more than 1000000000");
        RestSets x = new RestSets();
        int all = all(x);
        CHECK.due("more than that of one length", 1162261467, () -> x.words(all, 19));
        CHECK.due("but endless", -1, () -> x.size(all));
        int letter = x.letters(7);
        int atLeast = all;
        for (int n = 0; n < 9; n++) {
            atLeast = x.then(atLeast, letter);
        }
        int longer = atLeast;
        CHECK.due("at least nine letters", 9, () -> x.shortest(longer));
        CHECK.due("at least nine letters", -1, () -> x.size(longer));
        CHECK.due("all others", 9841, () -> x.size(x.contrary(longer)));
    }

    private static void countOfSets() {
        CHECK.about("19: How many SETS");
        RestSets x = new RestSets();
        for (int made = 0; made < 80; made++) {
            CHECK.due("made " + made, made, x::count);
            CHECK.due("refused", Check.BAD, () -> x.letters(8));
            int n = made;
            CHECK.due("made", n, () -> n % 2 == 0 ? x.empty() : x.contrary(n - 1));
            CHECK.due("asked", n % 2 == 0 ? 1 : -1, () -> x.size(n));
        }
        CHECK.due("all 80", 80, x::count);
        CHECK.due("refused", Check.FULL, x::empty);
        CHECK.due("still 80", 80, x::count);
    }
}
