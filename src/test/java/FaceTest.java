import java.lang.reflect.Constructor;
import java.lang.reflect.Field;
import java.lang.reflect.Method;
import java.lang.reflect.Modifier;
import java.util.Set;
import java.util.TreeSet;

/** The class shows the document's face and nothing more. */
public final class FaceTest {
    private static final String BAD = " throws IllegalArgumentException";
    private static final String BAD_OR_FULL = BAD + ",IndexOutOfBoundsException";
    private static final String BAD_OR_MISSING = BAD + ",NoSuchElementException";
    private static final String[] FACE = {
        "int letters(int)" + BAD_OR_FULL, "int empty() throws IndexOutOfBoundsException",
        "int then(int,int)" + BAD_OR_FULL, "int both(int,int,int)" + BAD_OR_FULL,
        "int many(int)" + BAD_OR_FULL, "int contrary(int)" + BAD_OR_FULL, "int back(int)" + BAD_OR_FULL,
        "int rest(int,int)" + BAD_OR_FULL, "int beginnings(int)" + BAD_OR_FULL,
        "boolean has(int,int,long)" + BAD, "boolean same(int,int)" + BAD, "boolean inside(int,int)" + BAD,
        "int rests(int)" + BAD, "long words(int,int)" + BAD, "int shortest(int)" + BAD_OR_MISSING,
        "int letter(int,int)" + BAD_OR_MISSING, "int size(int)" + BAD, "int count()"};

    public static void main(String[] args) {
        Check check = new Check();
        Class<?> face = RestSets.class;
        check.due("modifiers", "public final", () -> Modifier.toString(face.getModifiers()));
        check.due("methods", new TreeSet<>(Set.of(FACE)), () -> shownMethods(face));
        check.due("constructors", "[public RestSets()]", () -> shownConstructors(face));
        for (Field field : face.getDeclaredFields()) {
            check.due("private " + field, true, () -> Modifier.isPrivate(field.getModifiers()));
            check.due("final if static " + field, true, () -> !Modifier.isStatic(field.getModifiers())
                || Modifier.isFinal(field.getModifiers()));
        }
        for (Class<?> inside : face.getDeclaredClasses()) {
            check.due("static " + inside, true, () -> Modifier.isStatic(inside.getModifiers()));
            check.due("hidden " + inside, false, () -> Modifier.isPublic(inside.getModifiers()));
        }
        check.finish();
    }

    private static Set<String> shownMethods(Class<?> face) {
        Set<String> shown = new TreeSet<>();
        for (Method method : face.getDeclaredMethods()) {
            if (!Modifier.isPrivate(method.getModifiers()) && !method.isSynthetic()) {
                String text = method.toGenericString().replaceAll("java\\.(lang|util)\\.", "");
                shown.add(text.replace("public ", "").replace("RestSets.", ""));
            }
        }
        return shown;
    }

    private static Set<String> shownConstructors(Class<?> face) {
        Set<String> shown = new TreeSet<>();
        for (Constructor<?> constructor : face.getDeclaredConstructors()) {
            shown.add(constructor.toString());
        }
        return shown;
    }
}
