import java.util.Map;

/** The section 'Terms': for each sentence that names a boundary a check of its own. */
public final class TermsTest {
    private static final Check CHECK = new Check();
    private static final int LOWEST = Integer.MIN_VALUE;
    private static final int HIGHEST = Integer.MAX_VALUE;
    private static final int TWO = 6;

    public static void main(String[] args) {
        lettersAre0To2();
        alsoTheEmptyWord();
        perhapsEndless();
        atMost80();
        numberedFrom0();
        byTheEmptyWordItself();
        tenRestsAreMade();
        elevenRestsAreNotMade();
        restsThatAreTheSameCountOnce();
        lengths0To30();
        letterKInItsBits();
        aboveIsNotLookedAt();
        threeIsBad();
        noSuchSet();
        noSuchLetter();
        noSuchNumber();
        tooManySets();
        missing();
        badBeforeFull();
        badBeforeMissing();
        refusedAsBadChangesNothing();
        refusedAsFullChangesNothing();
        refusedAsMissingChangesNothing();
        theObjectsOwnRows();
        makersAnswerTheNumber();
        the512thCall();
        CHECK.finish();
    }

    private static void lettersAre0To2() {
        CHECK.about("LETTERS 0 .. 2");
        RestSets x = new RestSets();
        int all = x.letters(7);
        for (int letter = 0; letter <= 2; letter++) {
            int l = letter;
            CHECK.due("has letter " + l, true, () -> x.has(all, 1, l));
            CHECK.due("rest by letter " + l, 1 + l, () -> x.rest(all, l));
            CHECK.due("the rest holds the empty word", true, () -> x.has(1 + l, 0, 0));
        }
        CHECK.due("there are three", 3, () -> x.size(all));
        CHECK.due("rest by -1", Check.BAD, () -> x.rest(all, -1));
        CHECK.due("rest by 3", Check.BAD, () -> x.rest(all, 3));
        CHECK.due("a word of the letter 3", Check.BAD, () -> x.has(all, 1, 3));
    }

    private static void alsoTheEmptyWord() {
        CHECK.about("WORDS: rows of them, also the empty one");
        RestSets x = new RestSets();
        int empty = x.empty();
        int none = x.letters(0);
        CHECK.due("has it", true, () -> x.has(empty, 0, 0));
        CHECK.due("has it not", false, () -> x.has(none, 0, 0));
        CHECK.due("it counts as a word", 1, () -> x.size(empty));
        CHECK.due("its length", 0, () -> x.shortest(empty));
        CHECK.due("words of length 0", 1, () -> x.words(empty, 0));
        CHECK.due("none isn't the same", false, () -> x.same(empty, none));
        CHECK.due("all words are one more", 1, () -> x.words(x.contrary(none), 0));
    }

    private static void perhapsEndless() {
        CHECK.about("SETS (of WORDS, perhaps endless)");
        RestSets x = new RestSets();
        int zeros = x.many(x.letters(1));
        CHECK.due("size", -1, () -> x.size(zeros));
        for (int n = 0; n < 40; n++) {
            int length = n;
            CHECK.due("one word of length " + n, 1, () -> x.words(zeros, length));
        }
    }

    private static RestSets with80() {
        RestSets x = new RestSets();
        for (int i = 0; i < 80; i++) {
            x.letters(i % 8);
        }
        return x;
    }

    private static void atMost80() {
        CHECK.about("at most 80");
        for (Map.Entry<String, Calls.OfSet> call : Calls.makers().entrySet()) {
            RestSets x = with79();
            CHECK.due("the 80th by " + call.getKey(), 79, () -> call.getValue().run(x, 1));
            CHECK.due("count", 80, x::count);
            CHECK.due("the 81st by " + call.getKey(), Check.FULL, () -> call.getValue().run(x, 1));
            CHECK.due("the 81st by letters", Check.FULL, () -> x.letters(1));
            CHECK.due("the 81st by empty", Check.FULL, x::empty);
            CHECK.due("count", 80, x::count);
        }
        RestSets x = with79();
        CHECK.due("the 80th by letters", 79, () -> x.letters(0));
        RestSets y = with79();
        CHECK.due("the 80th by empty", 79, y::empty);
        CHECK.due("the 80th is whole", 1, () -> y.size(79));
    }

    private static RestSets with79() {
        RestSets x = new RestSets();
        for (int i = 0; i < 79; i++) {
            x.letters(i % 8);
        }
        return x;
    }

    private static void numberedFrom0() {
        CHECK.about("numbered from 0");
        RestSets x = new RestSets();
        for (int i = 0; i < 80; i++) {
            int p = i;
            CHECK.due("not there yet: " + p, Check.BAD, () -> x.size(p));
            CHECK.due("the next one", p, () -> x.letters(p % 8));
            CHECK.due("there: " + p, Integer.bitCount(p % 8), () -> x.size(p));
        }
        CHECK.due("-1", Check.BAD, () -> x.size(-1));
        CHECK.due("80", Check.BAD, () -> x.size(80));
    }

    private static void byTheEmptyWordItself() {
        CHECK.about("by the empty one: itself");
        RestSets x = new RestSets();
        CHECK.due("no word: itself alone", 1, () -> x.rests(x.letters(0)));
        CHECK.due("all words: itself alone", 1, () -> x.rests(x.contrary(0)));
        CHECK.due("the empty word: itself and none", 2, () -> x.rests(x.empty()));
        CHECK.due("a letter: itself, the empty word and none", 3, () -> x.rests(x.letters(1)));
    }

    private static void restsDue(RestSets x, String what, int want, Check.Call call) {
        CHECK.due(what + ": rests", want, () -> x.rests((int) call.run()));
    }

    /** The multiples of a length, as many letters wide as bits tell. */
    private static int ring(RestSets x, int bits, int length) {
        return x.many(Words.rows(x, bits, length));
    }

    private static void tenRestsAreMade() {
        CHECK.about("A SET has at most 10 RESTS");
        RestSets x = new RestSets();
        int seven = Words.rows(x, 2, 7);
        int eight = x.then(seven, x.letters(2));
        restsDue(x, "eight letters", 10, () -> eight);
        restsDue(x, "its contrary", 10, () -> x.contrary(eight));
        restsDue(x, "turned round", 10, () -> x.back(eight));
        restsDue(x, "its beginnings", 10, () -> x.beginnings(eight));
        restsDue(x, "a rest with as many", 10, () -> x.rest(x.then(x.many(x.letters(1)), eight), 0));
        restsDue(x, "then", 10, () -> x.then(x.letters(1), seven));
        int late = x.then(x.many(x.letters(7)), eight);
        restsDue(x, "then, behind all", 10, () -> x.then(late, x.letters(2)));
        RestSets y = new RestSets();
        int two = ring(y, 7, 2);
        int five = ring(y, 7, 5);
        for (int how = 0; how < 4; how++) {
            int h = how;
            restsDue(y, "both " + h, 10, () -> y.both(h, two, five));
        }
        restsDue(y, "many", 10, () -> y.many(Words.rows(y, 1, 3, 5)));
        RestSets z = new RestSets();
        int fourWords = Words.some(z, "0", "00", "0002", "1221");
        restsDue(z, "four words", 9, () -> fourWords);
        restsDue(z, "back", 10, () -> z.back(fourWords));
    }

    private static void elevenRestsAreNotMade() {
        CHECK.about("one with more isn't made");
        RestSets x = new RestSets();
        int eight = Words.rows(x, 2, 8);
        int letter = x.letters(2);
        CHECK.due("then: 11", Check.FULL, () -> x.then(eight, letter));
        CHECK.due("then: 11", Check.FULL, () -> x.then(letter, eight));
        CHECK.due("then: 18", Check.FULL, () -> x.then(eight, eight));
        int late = x.then(x.then(x.many(x.letters(7)), eight), letter);
        CHECK.due("then, behind all: 11", Check.FULL, () -> x.then(late, letter));
        RestSets y = new RestSets();
        int two = ring(y, 1, 2);
        int five = ring(y, 1, 5);
        for (int how = 0; how < 4; how++) {
            int h = how;
            CHECK.due("both " + h + ": 11", Check.FULL, () -> y.both(h, two, five));
            CHECK.due("both " + h + ": 11", Check.FULL, () -> y.both(h, five, two));
        }
        int some = Words.rows(y, 7, 4, 6, 7);
        CHECK.due("many: 11", Check.FULL, () -> y.many(some));
        RestSets z = new RestSets();
        int fourWords = Words.some(z, "02", "102", "1001", "2010");
        restsDue(z, "four words", 10, () -> fourWords);
        CHECK.due("back: 11", Check.FULL, () -> z.back(fourWords));
        farMoreThanEleven();
    }

    private static void farMoreThanEleven() {
        RestSets x = new RestSets();
        int all = x.many(x.letters(7));
        // Told by a letter near the start, a set turned round has a rest for each row of last letters.
        int third = x.then(Words.rows(x, 7, 2), x.then(x.letters(1), all));
        restsDue(x, "told by the third letter", 5, () -> third);
        restsDue(x, "turned round", 8, () -> x.back(third));
        int eighth = x.then(Words.rows(x, 7, 5), third);
        restsDue(x, "told by the eighth letter", 10, () -> eighth);
        CHECK.due("back: 256", Check.FULL, () -> x.back(eighth));
    }

    private static void restsThatAreTheSameCountOnce() {
        CHECK.about("RESTS that aren't the same");
        RestSets x = new RestSets();
        int all = x.many(x.letters(7));
        int eight = Words.rows(x, 2, 8);
        // Read plainly, each of these comes to far more than ten places.
        int most = x.both(0, x.contrary(eight), x.empty());
        restsDue(x, "all but one word", 10, () -> most);
        restsDue(x, "all, then that", 1, () -> x.then(all, most));
        restsDue(x, "that, then all", 1, () -> x.then(most, all));
        restsDue(x, "that, then itself", 1, () -> x.then(most, most));
        restsDue(x, "as many of that as one likes", 1, () -> x.many(most));
        restsDue(x, "what it has in common with the word", 1, () -> x.both(1, most, eight));
        thousandsOfPlaces();
    }

    /**
     * Behind the first set's words come words of any length but eight. Which of the last nine
     * beginnings were words of the first set is free, so that a plain reading has some 3000 places.
     */
    private static void thousandsOfPlaces() {
        RestSets x = new RestSets();
        int all = x.many(x.letters(7));
        int fives = ring(x, 7, 5);
        int inOne = x.then(all, x.letters(2));
        int inTwo = x.then(all, x.letters(4));
        int first = x.both(0, x.both(2, inOne, fives), x.both(1, inTwo, fives));
        int withEmpty = x.both(0, first, x.empty());
        restsDue(x, "the first", 10, () -> withEmpty);
        int notEight = x.contrary(Words.rows(x, 7, 8));
        restsDue(x, "the second", 10, () -> notEight);
        // Only a word of eight letters can be left out, and only if no beginning but the empty one is in the first.
        int four = Words.rows(x, 5, 4);
        int left = x.then(x.then(four, x.letters(3)), Words.rows(x, 5, 3));
        int joined = x.then(withEmpty, notEight);
        restsDue(x, "the first, then the second", 10, () -> joined);
        CHECK.due("all but those", true, () -> x.same(joined, x.contrary(left)));
    }

    private static void lengths0To30() {
        CHECK.about("a length n (0 .. 30)");
        RestSets x = new RestSets();
        int all = x.many(x.letters(7));
        int none = x.letters(0);
        for (int n = 0; n <= 30; n++) {
            int length = n;
            CHECK.due("length " + n, true, () -> x.has(all, length, 0));
            CHECK.due("length " + n, false, () -> x.has(none, length, 0));
        }
        for (int n : new int[] {-1, -2, 31, 32, 33, 62, 64, LOWEST, HIGHEST}) {
            CHECK.due("length " + n, Check.BAD, () -> x.has(all, n, 0));
            CHECK.due("length " + n, Check.BAD, () -> x.has(none, n, 0));
        }
    }

    private static void letterKInItsBits() {
        CHECK.about("LETTER k (from 0) in its bits 2 k, 2 k + 1");
        RestSets x = new RestSets();
        int all = x.many(x.letters(7));
        int[] last = {x.then(all, x.letters(1)), x.then(all, x.letters(2)), x.then(all, x.letters(4))};
        for (int k = 0; k < 30; k++) {
            for (int letter = 0; letter < 3; letter++) {
                int p = last[letter];
                int length = k + 1;
                long at = (long) letter << 2 * k;
                // The letters below are another one each, so that no other bits can be the ones read.
                long below = Words.bits(String.valueOf((letter + 1) % 3).repeat(k));
                CHECK.due("letter " + k + " is " + letter, true, () -> x.has(p, length, at | below));
                long other = (long) ((letter + 2) % 3) << 2 * k;
                CHECK.due("letter " + k + " isn't " + letter, false, () -> x.has(p, length, other | below));
            }
        }
        int word = Words.one(x, "0121");
        CHECK.due("0121", true, () -> x.has(word, 4, 0b01_10_01_00));
        CHECK.due("1210", false, () -> x.has(word, 4, 0b00_01_10_01));
    }

    private static void aboveIsNotLookedAt() {
        CHECK.about("what stands above isn't looked at");
        RestSets x = new RestSets();
        int ones = x.many(x.letters(2));
        for (int n = 0; n <= 30; n++) {
            int length = n;
            long word = Words.bits("1".repeat(n));
            long above = -1L << 2 * n;
            CHECK.due("length " + n + ", all 0 above", true, () -> x.has(ones, length, word));
            CHECK.due("length " + n + ", all 1 above", true, () -> x.has(ones, length, word | above));
            CHECK.due("length " + n + ", a 3 next", true, () -> x.has(ones, length, word | 3L << 2 * length));
            CHECK.due("length " + n + ", the top bit", true, () -> x.has(ones, length, word | 1L << 63));
        }
    }

    private static void threeIsBad() {
        CHECK.about("3: bad");
        RestSets x = new RestSets();
        int all = x.many(x.letters(7));
        int none = x.letters(0);
        int zero = x.letters(1);
        for (int k = 0; k < 30; k++) {
            int at = k;
            CHECK.due("letter " + k + ", the last", Check.BAD, () -> x.has(all, at + 1, 3L << 2 * at));
            CHECK.due("letter " + k + " of 30", Check.BAD, () -> x.has(all, 30, 3L << 2 * at));
            CHECK.due("letter " + k + " in no word", Check.BAD, () -> x.has(none, 30, 3L << 2 * at));
            CHECK.due("letter " + k + ", a word that is too long", Check.BAD, () -> x.has(zero, 30, 3L << 2 * at));
        }
        CHECK.due("all are 3", Check.BAD, () -> x.has(all, 30, -1L));
    }

    private static RestSets withFour() {
        RestSets x = new RestSets();
        x.many(x.then(x.letters(1), x.letters(6)));
        return x;
    }

    private static void noSuchSet() {
        CHECK.about("no such SET");
        for (Map.Entry<String, Calls.OfSet> call : Calls.ofSets().entrySet()) {
            RestSets x = withFour();
            for (int p : new int[] {-1, 4, 5, 79, 80, 81, 256, 65536, LOWEST, HIGHEST}) {
                CHECK.due(call.getKey() + ", p " + p, Check.BAD, () -> call.getValue().run(x, p));
            }
            CHECK.due("count", 4, x::count);
            RestSets none = new RestSets();
            CHECK.due(call.getKey() + " of a new object", Check.BAD, () -> call.getValue().run(none, 0));
            CHECK.due("count", 0, none::count);
        }
    }

    private static void noSuchLetter() {
        CHECK.about("no such LETTER");
        RestSets x = withFour();
        Calls.badLetters().forEach((name, call) -> CHECK.due(name, Check.BAD, () -> call.run(x)));
        CHECK.due("count", 4, x::count);
    }

    private static void noSuchNumber() {
        CHECK.about("no such number");
        RestSets x = withFour();
        Calls.badNumbers().forEach((name, call) -> CHECK.due(name, Check.BAD, () -> call.run(x)));
        CHECK.due("count", 4, x::count);
    }

    private static void tooManySets() {
        CHECK.about("FULL is IndexOutOfBoundsException: too many SETS");
        RestSets x = with80();
        Calls.makers().forEach((name, call) -> CHECK.due(name, Check.FULL, () -> call.run(x, 79)));
        for (int bits = 0; bits < 8; bits++) {
            int b = bits;
            CHECK.due("letters " + b, Check.FULL, () -> x.letters(b));
        }
        CHECK.due("empty", Check.FULL, x::empty);
        CHECK.due("asking goes on", true, () -> x.has(79, 1, 2));
        CHECK.due("asking goes on", true, () -> x.inside(78, 79));
        CHECK.due("asking goes on", false, () -> x.same(78, 79));
    }

    private static void missing() {
        CHECK.about("'Missing' is java.util.NoSuchElementException");
        RestSets x = new RestSets();
        int none = x.letters(0);
        CHECK.due("shortest", Check.MISSING, () -> x.shortest(none));
        CHECK.due("letter", Check.MISSING, () -> x.letter(none, 0));
    }

    private static void badBeforeFull() {
        CHECK.about("In this order: bad, FULL");
        RestSets x = with80();
        for (int p : new int[] {-1, 80, LOWEST, HIGHEST}) {
            Calls.makers().forEach((name, call) -> CHECK.due(name + ", p " + p, Check.BAD, () -> call.run(x, p)));
        }
        Calls.badLetters().forEach((name, call) -> CHECK.due(name, Check.BAD, () -> call.run(x)));
        Calls.badNumbers().forEach((name, call) -> CHECK.due(name, Check.BAD, () -> call.run(x)));
        RestSets y = new RestSets();
        int two = ring(y, 1, 2);
        int five = ring(y, 1, 5);
        CHECK.due("too many rests", Check.FULL, () -> y.both(3, two, five));
        CHECK.due("too many rests and no such number", Check.BAD, () -> y.both(4, two, five));
        CHECK.due("too many rests and no such number", Check.BAD, () -> y.both(-1, two, five));
    }

    private static void badBeforeMissing() {
        CHECK.about("In this order: bad, missing");
        RestSets x = new RestSets();
        int none = x.letters(0);
        for (int p : new int[] {-1, 1, 80, LOWEST, HIGHEST}) {
            CHECK.due("shortest of " + p, Check.BAD, () -> x.shortest(p));
            for (int i : new int[] {-1, 0, 30, LOWEST, HIGHEST}) {
                CHECK.due("letter " + i + " of " + p, Check.BAD, () -> x.letter(p, i));
                CHECK.due("letter " + i + " of none", Check.MISSING, () -> x.letter(none, i));
            }
        }
    }

    /** Two objects made alike, the refused calls on one alone: both then tell the same and go on alike. */
    private static void goesOnAs(RestSets untried, RestSets tried) {
        sameLines(State.whole(untried), State.whole(tried));
        for (Map.Entry<String, Calls.OfSet> call : Calls.makers().entrySet()) {
            Object want = Check.answer(() -> call.getValue().run(untried, untried.count() - 1));
            CHECK.due("going on, " + call.getKey(), want, () -> call.getValue().run(tried, tried.count() - 1));
        }
        sameLines(State.brief(untried), State.brief(tried));
    }

    private static void sameLines(String[] want, String[] got) {
        CHECK.due("count", want.length, () -> got.length);
        for (int i = 0; i < Math.min(want.length, got.length); i++) {
            int line = i;
            CHECK.due("what it holds", want[i], () -> got[line]);
        }
    }

    private static void refusedAsBadChangesNothing() {
        CHECK.about("A refused call changes nothing (bad)");
        RestSets x = withFour();
        for (int p : new int[] {-1, 4}) {
            Calls.ofSets().forEach((name, call) -> CHECK.due(name, Check.BAD, () -> call.run(x, p)));
        }
        Calls.badLetters().forEach((name, call) -> CHECK.due(name, Check.BAD, () -> call.run(x)));
        Calls.badNumbers().forEach((name, call) -> CHECK.due(name, Check.BAD, () -> call.run(x)));
        CHECK.due("a 3 behind good letters", Check.BAD, () -> x.has(3, 5, 0b11_01_00_01_00));
        goesOnAs(withFour(), x);
    }

    private static void refusedAsFullChangesNothing() {
        CHECK.about("A refused call changes nothing (FULL)");
        RestSets x = with80();
        Calls.makers().forEach((name, call) -> CHECK.due(name, Check.FULL, () -> call.run(x, 79)));
        CHECK.due("letters", Check.FULL, () -> x.letters(0));
        CHECK.due("empty", Check.FULL, x::empty);
        sameLines(State.brief(with80()), State.brief(x));
        refusedForRests("then", y -> Words.rows(y, 2, 8), (y, p) -> y.then(p, 0));
        for (int how = 0; how < 4; how++) {
            int h = how;
            refusedForRests("both " + h, TermsTest::ringsOfTwoAndFive, (y, p) -> y.both(h, TWO, p));
        }
        refusedForRests("many", y -> Words.rows(y, 7, 4, 6, 7), RestSets::many);
        refusedForRests("back", TermsTest::toldByTheFourth, RestSets::back);
    }

    private interface Recipe {
        int make(RestSets x);
    }

    private static void refusedForRests(String what, Recipe recipe, Calls.OfSet call) {
        RestSets tried = new RestSets();
        RestSets untried = new RestSets();
        int p = recipe.make(tried);
        recipe.make(untried);
        CHECK.due(what, Check.FULL, () -> call.run(tried, p));
        CHECK.due(what + " again", Check.FULL, () -> call.run(tried, p));
        goesOnAs(untried, tried);
    }

    /** Makes two sets whose joinings have 11 rests: set TWO and the one that is answered. */
    private static int ringsOfTwoAndFive(RestSets x) {
        CHECK.due("the ring of two", TWO, () -> ring(x, 1, 2));
        return ring(x, 1, 5);
    }

    private static int toldByTheFourth(RestSets x) {
        int three = Words.rows(x, 7, 3);
        return x.then(x.then(three, x.letters(1)), x.many(x.letters(7)));
    }

    private static void refusedAsMissingChangesNothing() {
        CHECK.about("A refused call changes nothing (missing)");
        RestSets x = withFour();
        RestSets untried = withFour();
        x.letters(0);
        untried.letters(0);
        CHECK.due("shortest", Check.MISSING, () -> x.shortest(4));
        for (int i : new int[] {-1, 0, 1, LOWEST, HIGHEST}) {
            CHECK.due("letter " + i + " of none", Check.MISSING, () -> x.letter(4, i));
            CHECK.due("letter " + i + " of the empty word", Check.MISSING, () -> x.letter(3, i));
        }
        goesOnAs(untried, x);
    }

    private static void theObjectsOwnRows() {
        CHECK.about("All memory is the class's own rows");
        RestSets x = new RestSets();
        RestSets y = new RestSets();
        for (int i = 0; i < 40; i++) {
            int p = i;
            CHECK.due("one object", p, () -> x.letters(p % 8));
            CHECK.due("the other", p, () -> y.letters(7 - p % 8));
        }
        for (int i = 0; i < 40; i++) {
            int p = i;
            CHECK.due("one object's set " + p, Integer.bitCount(p % 8), () -> x.size(p));
            CHECK.due("the other's set " + p, 3 - Integer.bitCount(p % 8), () -> y.size(p));
        }
        CHECK.due("one object's", true, () -> x.inside(1, 3));
        CHECK.due("the other's", false, () -> y.inside(1, 3));
    }

    private static void makersAnswerTheNumber() {
        CHECK.about("Calls that make a SET answer its number");
        RestSets x = new RestSets();
        CHECK.due("letters", 0, () -> x.letters(1));
        CHECK.due("empty", 1, x::empty);
        int next = 2;
        for (Map.Entry<String, Calls.OfSet> call : Calls.makers().entrySet()) {
            CHECK.due(call.getKey(), next, () -> call.getValue().run(x, 1));
            next++;
            CHECK.due(call.getKey() + ", which is there already", next, () -> call.getValue().run(x, 1));
            next++;
            int made = next;
            CHECK.due("both are the same", true, () -> x.same(made - 2, made - 1));
            CHECK.due("count", made, x::count);
        }
    }

    private static void the512thCall() {
        CHECK.about("An object is used for at most 512 calls");
        RestSets x = new RestSets();
        for (int call = 0; call < 80; call++) {
            x.letters(call % 8);
        }
        for (int call = 80; call < 508; call++) {
            x.inside(call % 80, (call + 1) % 80);
        }
        CHECK.due("call 509", Check.FULL, x::empty);
        CHECK.due("call 510", Check.BAD, () -> x.size(80));
        CHECK.due("call 511", 80, x::count);
        CHECK.due("call 512", true, () -> x.inside(78, 79));
    }
}
