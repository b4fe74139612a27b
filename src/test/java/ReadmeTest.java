import java.io.IOException;
import java.lang.reflect.Method;
import java.lang.reflect.Modifier;
import java.nio.file.Files;
import java.nio.file.Path;
import java.util.ArrayList;
import java.util.List;
import java.util.Set;
import java.util.TreeSet;
import java.util.regex.Matcher;
import java.util.regex.Pattern;

/** README.md tells how to use every call, and what its example answers is true. */
public final class ReadmeTest {
    private static final Pattern LISTED = Pattern.compile("^\\| `(\\w+)\\(([^)]*)\\)` \\|");
    private static final Pattern ASKED = Pattern.compile("^(sets\\..*);\\s+// ([-\\w]+)");

    // The example's asking rows; README.md must hold just these, so that it can't drift from them.
    private static final List<String> ASKING = List.of(
        "sets.has(pairs, 4, 0b10_00_01_00)", "sets.words(pairs, 6)", "sets.rests(pairs)",
        "sets.size(pairs)", "sets.same(pairs, sets.back(pairs))");

    public static void main(String[] args) throws IOException {
        Check check = new Check();
        List<String> lines = Files.readAllLines(Path.of("README.md"));
        check.due("calls listed", calls(RestSets.class), () -> listed(lines));
        check.due("asking rows", ASKING, () -> found(lines, 1));
        check.due("their answers", found(lines, 2), ReadmeTest::answers);
        check.due("how to run the tests", true, () -> lines.contains("    .ci/run"));
        check.finish();
    }

    private static List<Object> answers() {
        RestSets sets = new RestSets();
        int zero = sets.letters(0b001);
        int other = sets.letters(0b110);
        int pair = sets.then(zero, other);
        int pairs = sets.many(pair);
        return List.of(sets.has(pairs, 4, 0b10_00_01_00), sets.words(pairs, 6), sets.rests(pairs),
            sets.size(pairs), sets.same(pairs, sets.back(pairs)));
    }

    private static List<String> found(List<String> lines, int group) {
        List<String> parts = new ArrayList<>();
        for (String line : lines) {
            Matcher asked = ASKED.matcher(line);
            if (asked.find()) {
                parts.add(asked.group(group));
            }
        }
        return parts;
    }

    private static Set<String> calls(Class<?> face) {
        Set<String> calls = new TreeSet<>();
        for (Method method : face.getDeclaredMethods()) {
            if (Modifier.isPublic(method.getModifiers())) {
                calls.add(method.getName() + " of " + method.getParameterCount());
            }
        }
        return calls;
    }

    private static Set<String> listed(List<String> lines) {
        Set<String> calls = new TreeSet<>();
        for (String line : lines) {
            Matcher row = LISTED.matcher(line);
            if (row.find()) {
                int taken = row.group(2).isEmpty() ? 0 : row.group(2).split(",").length;
                calls.add(row.group(1) + " of " + taken);
            }
        }
        return calls;
    }
}
