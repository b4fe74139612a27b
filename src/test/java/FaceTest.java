import java.lang.reflect.Constructor;
import java.lang.reflect.Field;
import java.lang.reflect.Method;
import java.lang.reflect.Modifier;
import java.util.Set;
import java.util.TreeSet;

/** The class shows the document's face and nothing more. */
public final class FaceTest {
    private static final String[] FACE = {
        "int letters(int)", "int empty()", "int then(int,int)", "int both(int,int,int)",
        "int many(int)", "int contrary(int)", "int back(int)", "int rest(int,int)",
        "int beginnings(int)", "boolean has(int,int,long)", "boolean same(int,int)",
        "boolean inside(int,int)", "int rests(int)", "long words(int,int)", "int shortest(int)",
        "int letter(int,int)", "int size(int)", "int count()"};

    public static void main(String[] args) {
        Check check = new Check();
        Class<?> face = RestSets.class;
        check.due("modifiers", "public final", () -> Modifier.toString(face.getModifiers()));
        check.due("methods", new TreeSet<>(Set.of(FACE)), () -> shownMethods(face));
        check.due("constructors", "[public RestSets()]", () -> shownConstructors(face));
        for (Field field : face.getDeclaredFields()) {
            check.due("private " + field, true, () -> Modifier.isPrivate(field.getModifiers()));
            check.due("final if static " + field, true, () -> !Modifier.isStatic(field.getModifiers())
                || Modifier.isFinal(field.getModifiers()));
        }
        for (Class<?> inside : face.getDeclaredClasses()) {
            check.due("static " + inside, true, () -> Modifier.isStatic(inside.getModifiers()));
            check.due("hidden " + inside, false, () -> Modifier.isPublic(inside.getModifiers()));
        }
        check.finish();
    }

    private static Set<String> shownMethods(Class<?> face) {
        Set<String> shown = new TreeSet<>();
        for (Method method : face.getDeclaredMethods()) {
            if (!Modifier.isPrivate(method.getModifiers()) && !method.isSynthetic()) {
                String text = method.toGenericString().replaceAll(" throws .*", "");
                shown.add(text.replace("public ", "").replace("RestSets.", ""));
            }
        }
        return shown;
    }

    private static Set<String> shownConstructors(Class<?> face) {
        Set<String> shown = new TreeSet<>();
        for (Constructor<?> constructor : face.getDeclaredConstructors()) {
            shown.add(constructor.toString());
        }
        return shown;
    }
}
