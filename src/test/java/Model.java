import java.math.BigInteger;
import java.util.ArrayDeque;
import java.util.ArrayList;
import java.util.Arrays;
import java.util.BitSet;
import java.util.Deque;
import java.util.HashMap;
import java.util.List;
import java.util.Map;
import java.util.NoSuchElementException;

/**
 * The document once more, with the Java library and no thought of room or speed: a set is made by
 * walking through all places of its plain machine and merging those that can't be told apart.
 */
final class Model {
    private static final int LETTERS = 3;

    /** A set's rests; rest 0 is the set itself. */
    private static final class Lang {
        final int[][] next;
        final boolean[] end;

        Lang(int[][] next, boolean[] end) {
            this.next = next;
            this.end = end;
        }
    }

    /** A place is a list of numbers of any meaning. */
    private interface Reader {
        List<Integer> step(List<Integer> place, int letter);

        boolean accepts(List<Integer> place);
    }

    private final List<Lang> langs = new ArrayList<>();
    /** The most places that any machine has had, to see that the runs are hard enough. */
    int mostPlaces;

    int letters(int bits) {
        need(bits >= 0 && bits <= 7);
        return keep(List.of(0), reader(
            (at, letter) -> List.of(at.get(0) == 0 && (bits & 1 << letter) != 0 ? 1 : 2),
            at -> at.get(0) == 1));
    }

    int empty() {
        return keep(List.of(0), reader((at, letter) -> List.of(1), at -> at.get(0) == 0));
    }

    int then(int p, int q) {
        Lang a = lang(p);
        Lang b = lang(q);
        return keep(thenPlace(a, 0, new BitSet()), reader((at, letter) -> {
            BitSet seconds = new BitSet();
            for (int i = 1; i < at.size(); i++) {
                seconds.set(b.next[at.get(i)][letter]);
            }
            return thenPlace(a, a.next[at.get(0)][letter], seconds);
        }, at -> at.subList(1, at.size()).stream().anyMatch(i -> b.end[i])));
    }

    private static List<Integer> thenPlace(Lang a, int first, BitSet seconds) {
        if (a.end[first]) {
            seconds.set(0);
        }
        List<Integer> place = new ArrayList<>();
        place.add(first);
        seconds.stream().forEach(place::add);
        return place;
    }

    int both(int how, int p, int q) {
        need(how >= 0 && how <= 3);
        Lang a = lang(p);
        Lang b = lang(q);
        return keep(List.of(0, 0), reader(
            (at, letter) -> List.of(a.next[at.get(0)][letter], b.next[at.get(1)][letter]),
            at -> joined(how, a.end[at.get(0)], b.end[at.get(1)])));
    }

    private static boolean joined(int how, boolean x, boolean y) {
        return how == 0 ? x | y : how == 1 ? x & y : how == 2 ? x & !y : x ^ y;
    }

    int many(int p) {
        Lang a = lang(p);
        return keep(List.of(-1), reader((at, letter) -> {
            BitSet to = new BitSet();
            for (int i : at) {
                int next = a.next[Math.max(i, 0)][letter];
                to.set(next);
                if (a.end[next]) {
                    to.set(0);
                }
            }
            return to.stream().boxed().toList();
        }, at -> at.stream().anyMatch(i -> i < 0 || a.end[i])));
    }

    int contrary(int p) {
        Lang a = lang(p);
        return keep(List.of(0), reader((at, letter) -> List.of(a.next[at.get(0)][letter]), at -> !a.end[at.get(0)]));
    }

    int back(int p) {
        Lang a = lang(p);
        List<Integer> ends = new ArrayList<>();
        for (int i = 0; i < a.end.length; i++) {
            if (a.end[i]) {
                ends.add(i);
            }
        }
        return keep(ends, reader((at, letter) -> {
            List<Integer> from = new ArrayList<>();
            for (int i = 0; i < a.end.length; i++) {
                if (at.contains(a.next[i][letter])) {
                    from.add(i);
                }
            }
            return from;
        }, at -> at.contains(0)));
    }

    int rest(int p, int letter) {
        Lang a = lang(p);
        need(letter >= 0 && letter < LETTERS);
        return keep(List.of(a.next[0][letter]),
            reader((at, l) -> List.of(a.next[at.get(0)][l]), at -> a.end[at.get(0)]));
    }

    int beginnings(int p) {
        Lang a = lang(p);
        return keep(List.of(0),
            reader((at, l) -> List.of(a.next[at.get(0)][l]), at -> firstShortest(a, at.get(0)) != null));
    }

    boolean has(int p, int n, long word) {
        Lang a = lang(p);
        need(n >= 0 && n <= 30);
        int at = 0;
        for (int k = 0; k < n; k++) {
            int letter = (int) (word >> 2 * k & 3);
            need(letter != 3);
            at = a.next[at][letter];
        }
        return a.end[at];
    }

    boolean same(int p, int q) {
        return inside(p, q) && inside(q, p);
    }

    boolean inside(int p, int q) {
        Lang a = lang(p);
        Lang b = lang(q);
        boolean[][] seen = new boolean[a.end.length][b.end.length];
        Deque<int[]> todo = new ArrayDeque<>();
        todo.add(new int[] {0, 0});
        while (!todo.isEmpty()) {
            int[] at = todo.remove();
            if (a.end[at[0]] && !b.end[at[1]]) {
                return false;
            }
            if (!seen[at[0]][at[1]]) {
                seen[at[0]][at[1]] = true;
                for (int letter = 0; letter < LETTERS; letter++) {
                    todo.add(new int[] {a.next[at[0]][letter], b.next[at[1]][letter]});
                }
            }
        }
        return true;
    }

    int rests(int p) {
        return lang(p).end.length;
    }

    long words(int p, int n) {
        Lang a = lang(p);
        need(n >= 0 && n <= 39);
        // Forward from the start, where the class under test counts backward from the ends.
        BigInteger[] at = new BigInteger[a.end.length];
        Arrays.fill(at, BigInteger.ZERO);
        at[0] = BigInteger.ONE;
        for (int k = 0; k < n; k++) {
            BigInteger[] to = new BigInteger[at.length];
            Arrays.fill(to, BigInteger.ZERO);
            for (int i = 0; i < at.length; i++) {
                for (int next : a.next[i]) {
                    to[next] = to[next].add(at[i]);
                }
            }
            at = to;
        }
        BigInteger sum = BigInteger.ZERO;
        for (int i = 0; i < at.length; i++) {
            sum = a.end[i] ? sum.add(at[i]) : sum;
        }
        return sum.longValueExact();
    }

    int shortest(int p) {
        String word = firstShortest(lang(p), 0);
        found(word != null);
        return word.length();
    }

    int letter(int p, int i) {
        String word = firstShortest(lang(p), 0);
        found(word != null && i >= 0 && i < word.length());
        return word.charAt(i) - '0';
    }

    /** Words by length and then by letters; the first to come to a rest is the only one that matters there. */
    private static String firstShortest(Lang a, int from) {
        boolean[] seen = new boolean[a.end.length];
        Map<String, Integer> where = new HashMap<>();
        Deque<String> todo = new ArrayDeque<>();
        todo.add("");
        where.put("", from);
        while (!todo.isEmpty()) {
            String word = todo.remove();
            int at = where.get(word);
            if (a.end[at]) {
                return word;
            }
            for (int letter = 0; letter < LETTERS && !seen[at]; letter++) {
                todo.add(word + letter);
                where.put(word + letter, a.next[at][letter]);
            }
            seen[at] = true;
        }
        return null;
    }

    int size(int p) {
        Lang a = lang(p);
        long total = sizeFrom(a, 0, new boolean[a.end.length]);
        return total < 0 ? -1 : total > 1000000000 ? -2 : (int) total;
    }

    /** -1 if a rest that has a word is met again on the way to itself. */
    private static long sizeFrom(Lang a, int at, boolean[] open) {
        if (firstShortest(a, at) == null) {
            return 0;
        }
        if (open[at]) {
            return -1;
        }
        open[at] = true;
        long total = a.end[at] ? 1 : 0;
        for (int letter = 0; letter < LETTERS && total >= 0; letter++) {
            long more = sizeFrom(a, a.next[at][letter], open);
            total = more < 0 ? -1 : total + more;
        }
        open[at] = false;
        return total;
    }

    int count() {
        return langs.size();
    }

    private Lang lang(int p) {
        need(p >= 0 && p < langs.size());
        return langs.get(p);
    }

    private static void need(boolean good) {
        if (!good) {
            throw new IllegalArgumentException();
        }
    }

    private static void found(boolean there) {
        if (!there) {
            throw new NoSuchElementException();
        }
    }

    private interface Step {
        List<Integer> from(List<Integer> place, int letter);
    }

    private interface End {
        boolean at(List<Integer> place);
    }

    private static Reader reader(Step step, End end) {
        return new Reader() {
            @Override
            public List<Integer> step(List<Integer> place, int letter) {
                return step.from(place, letter);
            }

            @Override
            public boolean accepts(List<Integer> place) {
                return end.at(place);
            }
        };
    }

    private int keep(List<Integer> start, Reader reader) {
        Lang least = merged(walked(start, reader));
        if (langs.size() >= 80 || least.end.length > 10) {
            throw new IndexOutOfBoundsException();
        }
        langs.add(least);
        return langs.size() - 1;
    }

    private Lang walked(List<Integer> start, Reader reader) {
        Map<List<Integer>, Integer> numbers = new HashMap<>();
        List<List<Integer>> places = new ArrayList<>();
        List<int[]> next = new ArrayList<>();
        numbers.put(start, 0);
        places.add(start);
        for (int i = 0; i < places.size(); i++) {
            int[] row = new int[LETTERS];
            for (int letter = 0; letter < LETTERS; letter++) {
                List<Integer> to = reader.step(places.get(i), letter);
                if (numbers.putIfAbsent(to, places.size()) == null) {
                    places.add(to);
                }
                row[letter] = numbers.get(to);
            }
            next.add(row);
        }
        boolean[] end = new boolean[places.size()];
        for (int i = 0; i < end.length; i++) {
            end[i] = reader.accepts(places.get(i));
        }
        mostPlaces = Math.max(mostPlaces, end.length);
        return new Lang(next.toArray(new int[0][]), end);
    }

    /** Parts the places by end or no end, then by the parts of their followers, until no part breaks. */
    private static Lang merged(Lang a) {
        int[] part = new int[a.end.length];
        for (int i = 0; i < part.length; i++) {
            part[i] = a.end[i] == a.end[0] ? 0 : 1;
        }
        int parts = 0;
        for (int more = (int) Arrays.stream(part).distinct().count(); more > parts;) {
            parts = more;
            Map<List<Integer>, Integer> seen = new HashMap<>();
            int[] finer = new int[part.length];
            for (int i = 0; i < part.length; i++) {
                List<Integer> mark = List.of(part[i], part[a.next[i][0]], part[a.next[i][1]], part[a.next[i][2]]);
                seen.putIfAbsent(mark, seen.size());
                finer[i] = seen.get(mark);
            }
            part = finer;
            more = seen.size();
        }
        int[][] next = new int[parts][LETTERS];
        boolean[] end = new boolean[parts];
        for (int i = 0; i < part.length; i++) {
            end[part[i]] = a.end[i];
            for (int letter = 0; letter < LETTERS; letter++) {
                next[part[i]][letter] = part[a.next[i][letter]];
            }
        }
        return new Lang(next, end);
    }
}
