/** Long runs of calls, fixed but without a plan: each answer is due to be the model's. */
public final class ModelTest {
    private static final int RUNS = 400;
    private static final int CALLS = 512;

    private final Check check = new Check();
    private long seed;
    private int run;
    private RestSets x;
    private Model m;
    private static int mostPlaces;

    public static void main(String[] args) {
        ModelTest test = new ModelTest();
        for (int run = 0; run < RUNS; run++) {
            test.oneRun(run);
        }
        System.out.println("the most places of one machine: " + mostPlaces);
        test.check.finish();
    }

    private void oneRun(int number) {
        run = number;
        seed = 1000003L * number + 17;
        x = new RestSets();
        m = new Model();
        for (int call = 0; call < CALLS; call++) {
            if (below(100) < 25) {
                making();
            } else {
                asking();
            }
        }
        mostPlaces = Math.max(mostPlaces, m.mostPlaces);
    }

    /** A fixed row of numbers that look free: the upper bits of a plain congruence. */
    private int below(int bound) {
        seed = seed * 6364136223846793005L + 1442695040888963407L;
        return (int) ((seed >>> 33) % bound);
    }

    /** Mostly one of the sets there are, the newer ones more often; seldom none of them. */
    private int anySet() {
        int sets = m.count();
        int chance = below(60);
        if (sets == 0 || chance == 0) {
            return new int[] {-1, sets, sets + 1, 80, Integer.MIN_VALUE, Integer.MAX_VALUE}[below(6)];
        }
        return chance < 30 ? below(sets) : sets - 1 - below(Math.min(sets, 8));
    }

    /** Mostly 0 .. bound - 1, seldom just outside. */
    private int nearly(int bound) {
        return below(40) == 0 ? (below(2) == 0 ? -1 : bound) : below(bound);
    }

    private void making() {
        int p = anySet();
        int q = anySet();
        int n = nearly(4);
        int bits = nearly(8);
        int letter = nearly(3);
        switch (m.count() < 3 ? below(3) : below(24)) {
            case 0, 1 -> due("letters " + bits, () -> x.letters(bits), () -> m.letters(bits));
            case 2 -> due("empty", () -> x.empty(), () -> m.empty());
            case 3, 4, 5, 6, 7, 8 -> due("then " + p + " " + q, () -> x.then(p, q), () -> m.then(p, q));
            case 9, 10, 11, 12, 13 ->
                due("both " + n + " " + p + " " + q, () -> x.both(n, p, q), () -> m.both(n, p, q));
            case 14, 15, 16 -> due("many " + p, () -> x.many(p), () -> m.many(p));
            case 17, 18 -> due("contrary " + p, () -> x.contrary(p), () -> m.contrary(p));
            case 19, 20 -> due("back " + p, () -> x.back(p), () -> m.back(p));
            case 21, 22 -> due("rest " + p + " " + letter, () -> x.rest(p, letter), () -> m.rest(p, letter));
            default -> due("beginnings " + p, () -> x.beginnings(p), () -> m.beginnings(p));
        }
    }

    private void asking() {
        int p = anySet();
        int q = anySet();
        int n = nearly(31);
        int length = nearly(40);
        int at = nearly(8);
        long word = anyWord(n);
        switch (below(9)) {
            case 0 -> due("has " + p + " " + n + " " + word, () -> x.has(p, n, word), () -> m.has(p, n, word));
            case 1 -> due("same " + p + " " + q, () -> x.same(p, q), () -> m.same(p, q));
            case 2 -> due("inside " + p + " " + q, () -> x.inside(p, q), () -> m.inside(p, q));
            case 3 -> due("rests " + p, () -> x.rests(p), () -> m.rests(p));
            case 4 -> due("words " + p + " " + length, () -> x.words(p, length), () -> m.words(p, length));
            case 5 -> due("shortest " + p, () -> x.shortest(p), () -> m.shortest(p));
            case 6 -> due("letter " + p + " " + at, () -> x.letter(p, at), () -> m.letter(p, at));
            case 7 -> due("size " + p, () -> x.size(p), () -> m.size(p));
            default -> due("count", () -> x.count(), () -> m.count());
        }
    }

    /** Letters 0 .. 2 for the first n, seldom a 3 among them, and anything above. */
    private long anyWord(int n) {
        long word = 0;
        for (int k = 0; k < 32; k++) {
            long letter = k >= n ? below(4) : below(300) == 0 ? 3 : below(3);
            word |= letter << 2 * k;
        }
        return word;
    }

    private void due(String what, Check.Call got, Check.Call want) {
        check.due("run " + run + ": " + what, Check.answer(want), got);
    }
}
