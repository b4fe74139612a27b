import java.util.NoSuchElementException;

/**
 * Sets of words over the letters 0 .. 2, made from others. Each is kept as the table of its rests,
 * numbered in one fixed order, so that two sets with the same words have the same table.
 */
public final class RestSets {
    private static final int LETTERS = 3;
    private static final int MAX_SETS = 80;
    private static final int MAX_RESTS = 10;
    private static final int SUBSETS = 1 << MAX_RESTS;
    // Then has the most places: a rest of the first set together with some rests of the second.
    private static final int MAX_PLACES = MAX_RESTS * SUBSETS;
    private static final int MAX_WORD = 30;
    private static final int MAX_LENGTH = 39;
    private static final int MAX_SIZE = 1000000000;
    private static final int ENDLESS = -1;
    private static final int VAST = -2;

    private static final int ONE_OR_OTHER = 0;
    private static final int IN_BOTH = 1;
    private static final int FIRST_ALONE = 2;
    private static final int JUST_ONE = 3;

    private final Table[] tables = new Table[MAX_SETS];
    private final Sorter sorter = new Sorter();
    private final Tally tally = new Tally();
    private int made;

    public RestSets() {
        for (int i = 0; i < MAX_SETS; i++) {
            tables[i] = new Table();
        }
    }

    public int letters(int bits) throws IllegalArgumentException, IndexOutOfBoundsException {
        if (bits < 0 || bits >= 1 << LETTERS) {
            throw new IllegalArgumentException("no such letters");
        }
        return keep(new OneLetter(bits, OneLetter.BEFORE));
    }

    public int empty() throws IndexOutOfBoundsException {
        return keep(new OneLetter(0, OneLetter.BEHIND));
    }

    public int then(int p, int q) throws IllegalArgumentException, IndexOutOfBoundsException {
        return keep(new Then(tableOf(p), tableOf(q)));
    }

    public int both(int how, int p, int q) throws IllegalArgumentException, IndexOutOfBoundsException {
        if (how < ONE_OR_OTHER || how > JUST_ONE) {
            throw new IllegalArgumentException("no such way to join");
        }
        return keep(new Both(how, tableOf(p), tableOf(q)));
    }

    public int many(int p) throws IllegalArgumentException, IndexOutOfBoundsException {
        return keep(new Many(tableOf(p)));
    }

    public int contrary(int p) throws IllegalArgumentException, IndexOutOfBoundsException {
        Table table = tableOf(p);
        return keep(new Recast(table, 0, ~table.ends));
    }

    public int back(int p) throws IllegalArgumentException, IndexOutOfBoundsException {
        return keep(new Back(tableOf(p)));
    }

    public int rest(int p, int letter) throws IllegalArgumentException, IndexOutOfBoundsException {
        Table table = tableOf(p);
        if (letter < 0 || letter >= LETTERS) {
            throw new IllegalArgumentException("no such letter");
        }
        return keep(new Recast(table, table.after(0, letter), table.ends));
    }

    public int beginnings(int p) throws IllegalArgumentException, IndexOutOfBoundsException {
        Table table = tableOf(p);
        return keep(new Recast(table, 0, table.live));
    }

    public boolean has(int p, int n, long word) throws IllegalArgumentException {
        Table table = tableOf(p);
        if (n < 0 || n > MAX_WORD) {
            throw new IllegalArgumentException("no such length");
        }
        int at = 0;
        for (int k = 0; k < n; k++) {
            int letter = (int) (word >>> 2 * k) & 3;
            if (letter >= LETTERS) {
                throw new IllegalArgumentException("no such letter");
            }
            at = table.after(at, letter);
        }
        return table.endsAt(at);
    }

    public boolean same(int p, int q) throws IllegalArgumentException {
        return tableOf(p).matches(tableOf(q));
    }

    public boolean inside(int p, int q) throws IllegalArgumentException {
        sorter.begin(new Both(FIRST_ALONE, tableOf(p), tableOf(q)));
        return !sorter.meetsAnEnd();
    }

    public int rests(int p) throws IllegalArgumentException {
        return tableOf(p).restCount;
    }

    public long words(int p, int n) throws IllegalArgumentException {
        Table table = tableOf(p);
        if (n < 0 || n > MAX_LENGTH) {
            throw new IllegalArgumentException("no such length");
        }
        tally.begin(table);
        for (int length = 0; length < n; length++) {
            tally.lengthen(table);
        }
        return tally.ways[0];
    }

    public int shortest(int p) throws IllegalArgumentException, NoSuchElementException {
        Table table = tableOf(p);
        if (table.far[0] == Table.NO_WORD) {
            throw new NoSuchElementException("no word");
        }
        return table.far[0];
    }

    public int letter(int p, int i) throws IllegalArgumentException, NoSuchElementException {
        Table table = tableOf(p);
        // Where there is no word at all, NO_WORD is below every i that is left.
        if (i < 0 || i >= table.far[0]) {
            throw new NoSuchElementException("no such letter in the word");
        }
        int at = 0;
        for (int k = 0; k < i; k++) {
            at = table.after(at, table.nearer(at));
        }
        return table.nearer(at);
    }

    public int size(int p) throws IllegalArgumentException {
        Table table = tableOf(p);
        long total = 0;
        tally.begin(table);
        // A word as long as there are rests comes by some rest twice; cut or repeated there,
        // it gives one of fewer than twice as many letters, and endless many.
        for (int length = 0; length < 2 * table.restCount; length++) {
            if (length >= table.restCount && tally.ways[0] > 0) {
                return ENDLESS;
            }
            total += tally.ways[0];
            tally.lengthen(table);
        }
        return total > MAX_SIZE ? VAST : (int) total;
    }

    public int count() {
        return made;
    }

    private Table tableOf(int p) {
        if (p < 0 || p >= made) {
            throw new IllegalArgumentException("no such set");
        }
        return tables[p];
    }

    private int keep(Machine machine) {
        if (made >= MAX_SETS) {
            throw new IndexOutOfBoundsException("too many sets");
        }
        sorter.begin(machine);
        int verdict = Sorter.SPLIT;
        // Each split adds a kind to at least one, so the last round sorts or refuses.
        for (int round = 0; round < MAX_RESTS && verdict == Sorter.SPLIT; round++) {
            verdict = sorter.scan();
        }
        if (verdict != Sorter.SORTED) {
            throw new IndexOutOfBoundsException("too many rests");
        }
        sorter.writeTo(tables[made]);
        made++;
        return made - 1;
    }

    /** One set: rest 0 is the set itself, the others are numbered as they are met from it. */
    private static final class Table {
        private static final int NO_WORD = -1;

        private int restCount;
        // Masks over the rests: those that hold the empty word, and those that hold any word.
        private int ends;
        private int live;
        private final int[] next = new int[MAX_RESTS * LETTERS];
        // The length of each rest's shortest word.
        private final int[] far = new int[MAX_RESTS];

        int after(int rest, int letter) {
            return next[rest * LETTERS + letter];
        }

        boolean endsAt(int rest) {
            return (ends >> rest & 1) != 0;
        }

        // Rests without a word are left out: they add nothing to a union.
        int afterAll(int someRests, int letter) {
            int met = 0;
            for (int rest = 0; rest < restCount; rest++) {
                if ((someRests >> rest & 1) != 0) {
                    met |= 1 << after(rest, letter);
                }
            }
            return met & live;
        }

        int beforeAll(int someRests, int letter) {
            int from = 0;
            for (int rest = 0; rest < restCount; rest++) {
                if ((someRests >> after(rest, letter) & 1) != 0) {
                    from |= 1 << rest;
                }
            }
            return from;
        }

        boolean matches(Table other) {
            if (restCount != other.restCount || ends != other.ends) {
                return false;
            }
            for (int i = 0; i < restCount * LETTERS; i++) {
                if (next[i] != other.next[i]) {
                    return false;
                }
            }
            return true;
        }

        void measure() {
            live = ends;
            for (int rest = 0; rest < restCount; rest++) {
                far[rest] = endsAt(rest) ? 0 : NO_WORD;
            }
            for (int length = 1; length < restCount; length++) {
                for (int rest = 0; rest < restCount; rest++) {
                    if (far[rest] == NO_WORD && letterToward(rest, length - 1) < LETTERS) {
                        far[rest] = length;
                        live |= 1 << rest;
                    }
                }
            }
        }

        /** The first letter of a rest's first shortest word, if it has one that isn't empty. */
        int nearer(int rest) {
            return letterToward(rest, far[rest] - 1);
        }

        private int letterToward(int rest, int distance) {
            for (int letter = 0; letter < LETTERS; letter++) {
                if (far[after(rest, letter)] == distance) {
                    return letter;
                }
            }
            return LETTERS;
        }
    }

    /** A way to read words letter by letter: its places may be far more than the rests of its set. */
    private abstract static class Machine {
        abstract int start();

        abstract int step(int place, int letter);

        abstract boolean accepts(int place);
    }

    private static final class OneLetter extends Machine {
        private static final int BEFORE = 0;
        private static final int BEHIND = 1;
        private static final int ASTRAY = 2;

        private final int bits;
        private final int first;

        OneLetter(int bits, int first) {
            this.bits = bits;
            this.first = first;
        }

        @Override
        int start() {
            return first;
        }

        @Override
        int step(int place, int letter) {
            return place == BEFORE && (bits >> letter & 1) != 0 ? BEHIND : ASTRAY;
        }

        @Override
        boolean accepts(int place) {
            return place == BEHIND;
        }
    }

    /** The rests of one set, with another start or other ends. */
    private static final class Recast extends Machine {
        private final Table table;
        private final int first;
        private final int ends;

        Recast(Table table, int first, int ends) {
            this.table = table;
            this.first = first;
            this.ends = ends;
        }

        @Override
        int start() {
            return first;
        }

        @Override
        int step(int place, int letter) {
            return table.after(place, letter);
        }

        @Override
        boolean accepts(int place) {
            return (ends >> place & 1) != 0;
        }
    }

    /** Two sets read side by side: a place is a rest of each. */
    private static final class Both extends Machine {
        private final int how;
        private final Table one;
        private final Table other;

        Both(int how, Table one, Table other) {
            this.how = how;
            this.one = one;
            this.other = other;
        }

        @Override
        int start() {
            return 0;
        }

        @Override
        int step(int place, int letter) {
            int inOne = one.after(place / MAX_RESTS, letter);
            return inOne * MAX_RESTS + other.after(place % MAX_RESTS, letter);
        }

        @Override
        boolean accepts(int place) {
            boolean inOne = one.endsAt(place / MAX_RESTS);
            boolean inOther = other.endsAt(place % MAX_RESTS);
            switch (how) {
                case ONE_OR_OTHER:
                    return inOne || inOther;
                case IN_BOTH:
                    return inOne && inOther;
                case FIRST_ALONE:
                    return inOne && !inOther;
                default:
                    return inOne != inOther;
            }
        }
    }

    /** A place is a rest of the first set and the rests of the second that words begun since have come to. */
    private static final class Then extends Machine {
        private final Table one;
        private final Table other;

        Then(Table one, Table other) {
            this.one = one;
            this.other = other;
        }

        @Override
        int start() {
            return withBegun(0, 0);
        }

        @Override
        int step(int place, int letter) {
            int inOne = one.after(place / SUBSETS, letter);
            return withBegun(inOne, other.afterAll(place % SUBSETS, letter));
        }

        @Override
        boolean accepts(int place) {
            return (place % SUBSETS & other.ends) != 0;
        }

        private int withBegun(int inOne, int inOther) {
            int begun = one.endsAt(inOne) ? 1 : 0;
            return inOne * SUBSETS + (inOther | begun);
        }
    }

    /** A place is the rests that all the ways to cut the word so far have come to. */
    private static final class Many extends Machine {
        // Apart from the rest 0 alone, which need not hold the empty word.
        private static final int NOTHING_READ = SUBSETS;

        private final Table table;

        Many(Table table) {
            this.table = table;
        }

        @Override
        int start() {
            return NOTHING_READ;
        }

        @Override
        int step(int place, int letter) {
            int met = table.afterAll(place == NOTHING_READ ? 1 : place, letter);
            return (met & table.ends) != 0 ? met | 1 : met;
        }

        @Override
        boolean accepts(int place) {
            return place == NOTHING_READ || (place & table.ends) != 0;
        }
    }

    /** A place is the rests from which what was read, turned round, leads to an end. */
    private static final class Back extends Machine {
        private final Table table;

        Back(Table table) {
            this.table = table;
        }

        @Override
        int start() {
            return table.ends;
        }

        @Override
        int step(int place, int letter) {
            return table.beforeAll(place, letter);
        }

        @Override
        boolean accepts(int place) {
            return (place & 1) != 0;
        }
    }

    /**
     * Finds the rests of a machine's set. Places are met only as they are needed, and sorted into
     * kinds by whether they accept some test words; a set of too many rests is so refused early.
     */
    private static final class Sorter {
        private static final int SORTED = 0;
        private static final int SPLIT = 1;
        private static final int TOO_MANY = 2;

        private Machine machine = new OneLetter(0, OneLetter.BEFORE);

        // The places met, in their order; in indexOf and next an index is kept one higher, 0 being none.
        private final int[] indexOf = new int[MAX_PLACES];
        private final int[] placeAt = new int[MAX_PLACES];
        private final int[] next = new int[MAX_PLACES * LETTERS];
        private int met;

        // Bit t of a place's answers: whether it accepts test t, for the tests asked so far.
        private final int[] answers = new int[MAX_PLACES];
        private final int[] asked = new int[MAX_PLACES];

        // Test 0 is the empty word, each other one a letter and then an earlier test.
        private final int[] testLetter = new int[MAX_RESTS];
        private final int[] testTail = new int[MAX_RESTS];
        private int tests;

        // For each kind the index of one place of it; no two of them answer all tests alike.
        private final int[] example = new int[MAX_RESTS];
        private int kinds;

        // For the numbering of the kinds in writeTo.
        private final int[] numberOf = new int[MAX_RESTS];
        private final int[] kindAt = new int[MAX_RESTS];

        void begin(Machine newMachine) {
            for (int i = 0; i < met; i++) {
                indexOf[placeAt[i]] = 0;
            }
            machine = newMachine;
            met = 0;
            tests = 1;
            kinds = 0;
            meet(machine.start());
        }

        boolean meetsAnEnd() {
            for (int i = 0; i < met && i < MAX_PLACES; i++) {
                if (machine.accepts(placeAt[i])) {
                    return true;
                }
                for (int letter = 0; letter < LETTERS; letter++) {
                    follow(i, letter);
                }
            }
            return false;
        }

        /** Goes through all places until one differs from its kind's example behind some letter. */
        int scan() {
            for (int kind = 0; kind < kinds; kind++) {
                askTests(example[kind]);
            }
            for (int i = 0; i < met && i < MAX_PLACES; i++) {
                int kind = kindWith(askTests(i));
                if (kind == kinds && !addKind(i)) {
                    return TOO_MANY;
                }
                for (int letter = 0; letter < LETTERS; letter++) {
                    int here = askTests(follow(i, letter));
                    int there = askTests(follow(example[kind], letter));
                    if (here != there) {
                        return split(i, letter, Integer.numberOfTrailingZeros(here ^ there));
                    }
                }
            }
            return SORTED;
        }

        /** Numbers the kinds in the order in which they are met from the start, smaller letters first. */
        void writeTo(Table table) {
            for (int kind = 0; kind < kinds; kind++) {
                numberOf[kind] = kinds;
            }
            int numbered = 1;
            int ends = 0;
            numberOf[0] = 0;
            kindAt[0] = 0;
            for (int rest = 0; rest < numbered && rest < kinds; rest++) {
                int index = example[kindAt[rest]];
                ends |= (answers[index] & 1) << rest;
                for (int letter = 0; letter < LETTERS; letter++) {
                    int kind = kindWith(answers[follow(index, letter)]);
                    if (numberOf[kind] == kinds) {
                        numberOf[kind] = numbered;
                        kindAt[numbered] = kind;
                        numbered++;
                    }
                    table.next[rest * LETTERS + letter] = numberOf[kind];
                }
            }
            table.restCount = kinds;
            table.ends = ends;
            table.measure();
        }

        private int split(int index, int letter, int test) {
            if (!addKind(index)) {
                return TOO_MANY;
            }
            testLetter[tests] = letter;
            testTail[tests] = test;
            tests++;
            return SPLIT;
        }

        private boolean addKind(int index) {
            if (kinds >= MAX_RESTS) {
                return false;
            }
            example[kinds] = index;
            kinds++;
            return true;
        }

        private int kindWith(int someAnswers) {
            int kind = 0;
            while (kind < kinds && answers[example[kind]] != someAnswers) {
                kind++;
            }
            return kind;
        }

        private int askTests(int index) {
            for (int test = asked[index]; test < tests; test++) {
                int at = index;
                int left = test;
                // A tail is an earlier test, so there are at most as many letters as tests before.
                for (int k = 0; k < test && left > 0; k++) {
                    at = follow(at, testLetter[left]);
                    left = testTail[left];
                }
                if (machine.accepts(placeAt[at])) {
                    answers[index] |= 1 << test;
                }
            }
            asked[index] = tests;
            return answers[index];
        }

        private int follow(int index, int letter) {
            int slot = index * LETTERS + letter;
            if (next[slot] == 0) {
                next[slot] = 1 + meet(machine.step(placeAt[index], letter));
            }
            return next[slot] - 1;
        }

        private int meet(int place) {
            if (indexOf[place] == 0) {
                placeAt[met] = place;
                answers[met] = 0;
                asked[met] = 0;
                for (int letter = 0; letter < LETTERS; letter++) {
                    next[met * LETTERS + letter] = 0;
                }
                met++;
                indexOf[place] = met;
            }
            return indexOf[place] - 1;
        }
    }

    /** How many words of one length each rest has. */
    private static final class Tally {
        private final long[] ways = new long[MAX_RESTS];
        private final long[] longer = new long[MAX_RESTS];

        void begin(Table table) {
            for (int rest = 0; rest < table.restCount; rest++) {
                ways[rest] = table.endsAt(rest) ? 1 : 0;
            }
        }

        void lengthen(Table table) {
            for (int rest = 0; rest < table.restCount; rest++) {
                longer[rest] = 0;
                for (int letter = 0; letter < LETTERS; letter++) {
                    longer[rest] += ways[table.after(rest, letter)];
                }
            }
            System.arraycopy(longer, 0, ways, 0, table.restCount);
        }
    }
}
