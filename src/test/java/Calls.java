import java.util.LinkedHashMap;
import java.util.Map;

/** All calls of the face as tables, so that a test can go through every one of them. */
final class Calls {
    private Calls() {
    }

    /** A call with one set left open; where it takes a second one, that is set 0. */
    interface OfSet {
        Object run(RestSets x, int p);
    }

    interface Any {
        Object run(RestSets x);
    }

    /** The calls that make a set from others. */
    static Map<String, OfSet> makers() {
        Map<String, OfSet> calls = new LinkedHashMap<>();
        calls.put("then(p, 0)", (x, p) -> x.then(p, 0));
        calls.put("then(0, p)", (x, p) -> x.then(0, p));
        for (int how = 0; how < 4; how++) {
            int h = how;
            calls.put("both(" + h + ", p, 0)", (x, p) -> x.both(h, p, 0));
            calls.put("both(" + h + ", 0, p)", (x, p) -> x.both(h, 0, p));
        }
        calls.put("many(p)", RestSets::many);
        calls.put("contrary(p)", RestSets::contrary);
        calls.put("back(p)", RestSets::back);
        calls.put("rest(p, 2)", (x, p) -> x.rest(p, 2));
        calls.put("beginnings(p)", RestSets::beginnings);
        return calls;
    }

    /** The calls that ask about sets. */
    static Map<String, OfSet> askers() {
        Map<String, OfSet> calls = new LinkedHashMap<>();
        calls.put("has(p, 0, 0)", (x, p) -> x.has(p, 0, 0));
        calls.put("same(p, 0)", (x, p) -> x.same(p, 0));
        calls.put("same(0, p)", (x, p) -> x.same(0, p));
        calls.put("inside(p, 0)", (x, p) -> x.inside(p, 0));
        calls.put("inside(0, p)", (x, p) -> x.inside(0, p));
        calls.put("rests(p)", RestSets::rests);
        calls.put("words(p, 0)", (x, p) -> x.words(p, 0));
        calls.put("shortest(p)", RestSets::shortest);
        calls.put("letter(p, 0)", (x, p) -> x.letter(p, 0));
        calls.put("size(p)", RestSets::size);
        return calls;
    }

    static Map<String, OfSet> ofSets() {
        Map<String, OfSet> calls = makers();
        calls.putAll(askers());
        return calls;
    }

    /** Calls of set 0 that tell a letter there isn't. */
    static Map<String, Any> badLetters() {
        Map<String, Any> calls = new LinkedHashMap<>();
        for (int letter : new int[] {-1, 3, 4, 256, 65536, Integer.MIN_VALUE, Integer.MAX_VALUE}) {
            calls.put("rest(0, " + letter + ")", x -> x.rest(0, letter));
        }
        calls.put("has(0, 1, 3)", x -> x.has(0, 1, 3));
        return calls;
    }

    /** Calls of set 0 that tell a number outside its bounds. */
    static Map<String, Any> badNumbers() {
        Map<String, Any> calls = new LinkedHashMap<>();
        for (int bits : new int[] {-1, -8, 8, 9, 256, 65537, Integer.MIN_VALUE, Integer.MAX_VALUE}) {
            calls.put("letters(" + bits + ")", x -> x.letters(bits));
        }
        for (int how : new int[] {-1, 4, 256, 65536, Integer.MIN_VALUE, Integer.MAX_VALUE}) {
            calls.put("both(" + how + ", 0, 0)", x -> x.both(how, 0, 0));
        }
        for (int n : new int[] {-1, 31, 32, 64, 256, 65536, Integer.MIN_VALUE, Integer.MAX_VALUE}) {
            calls.put("has(0, " + n + ", 0)", x -> x.has(0, n, 0));
        }
        for (int n : new int[] {-1, 40, 41, 256, 65536, Integer.MIN_VALUE, Integer.MAX_VALUE}) {
            calls.put("words(0, " + n + ")", x -> x.words(0, n));
        }
        return calls;
    }
}
