/** Words written as texts of the digits 0 .. 2, and sets made of them. */
final class Words {
    private Words() {
    }

    static long bits(String word) {
        long bits = 0;
        for (int k = 0; k < word.length(); k++) {
            bits |= (long) (word.charAt(k) - '0') << 2 * k;
        }
        return bits;
    }

    static boolean in(RestSets sets, int p, String word) {
        return sets.has(p, word.length(), bits(word));
    }

    /** Makes the set that holds one word alone. */
    static int one(RestSets sets, String word) {
        int p = sets.empty();
        for (int k = 0; k < word.length(); k++) {
            p = sets.then(p, sets.letters(1 << word.charAt(k) - '0'));
        }
        return p;
    }

    /** Makes the set that holds the given words alone. */
    static int some(RestSets sets, String... words) {
        int p = sets.letters(0);
        for (String word : words) {
            p = sets.both(0, p, one(sets, word));
        }
        return p;
    }

    /** Makes the set of all rows of the letters that bits tell, of the given lengths, which rise. */
    static int rows(RestSets sets, int bits, int... lengths) {
        int letter = sets.letters(bits);
        int found = sets.letters(0);
        int row = sets.empty();
        int reached = 0;
        for (int length : lengths) {
            for (; reached < length; reached++) {
                row = sets.then(row, letter);
            }
            found = sets.both(0, found, row);
        }
        return found;
    }

    /** All words of up to three letters that are in a set, shorter ones first; the empty one is -. */
    static String upToThree(RestSets sets, int p) {
        StringBuilder found = new StringBuilder();
        for (int length = 0; length <= 3; length++) {
            for (int n = 0; n < Math.pow(3, length); n++) {
                String word = length == 0 ? "" : pad(Integer.toString(n, 3), length);
                if (in(sets, p, word)) {
                    found.append(found.length() == 0 ? "" : " ").append(length == 0 ? "-" : word);
                }
            }
        }
        return found.toString();
    }

    private static String pad(String digits, int length) {
        return "0".repeat(length - digits.length()) + digits;
    }
}
