import java.lang.reflect.Constructor;
import java.lang.reflect.Field;
import java.lang.reflect.Method;
import java.lang.reflect.Modifier;
import java.util.Set;
import java.util.TreeSet;

/** The public face is that of the document, and no other member can be seen (LANGUAGE.md, 1). */
public final class FaceTest {
    private static final String INDEX = " IndexOutOfBoundsException";
    private static final String ARGUMENT = " IllegalArgumentException";
    private static final String STATE = " IllegalStateException";
    private static final String ELEMENT = " NoSuchElementException";

    public static void main(String[] args) {
        Check.holds("final", Modifier.isFinal(DeltaViews.class.getModifiers()));
        Check.holds("public", Modifier.isPublic(DeltaViews.class.getModifiers()));
        for (Constructor<?> made : DeltaViews.class.getDeclaredConstructors()) {
            Check.holds("constructor", Modifier.isPublic(made.getModifiers())
                    && made.getParameterCount() == 0);
        }
        for (Field field : DeltaViews.class.getDeclaredFields()) {
            Check.holds(field.getName() + " is private", Modifier.isPrivate(field.getModifiers()));
        }
        methods();
        for (Class<?> inside : DeltaViews.class.getDeclaredClasses()) {
            Check.holds(inside.getName() + " is static", Modifier.isStatic(inside.getModifiers()));
        }
        Check.end();
    }

    private static void methods() {
        Set<String> seen = new TreeSet<>();
        Set<String> publicNames = new TreeSet<>();
        for (Method method : DeltaViews.class.getDeclaredMethods()) {
            if (!Modifier.isPrivate(method.getModifiers())) {
                seen.add(describe(method));
                publicNames.add(method.getName());
            }
        }
        for (Method method : DeltaViews.class.getDeclaredMethods()) {
            if (Modifier.isPrivate(method.getModifiers())) {
                Check.holds(method.getName() + " is no name of the face",
                        !publicNames.contains(method.getName()));
            }
        }
        Set<String> due = Set.of(
                "public int change 4" + INDEX + ARGUMENT + STATE,
                "public int cancel 0",
                "public int commit 0" + STATE,
                "public int select 4" + INDEX + ARGUMENT + STATE,
                "public int project 3" + INDEX + ARGUMENT + STATE,
                "public int join 4" + INDEX + ARGUMENT + STATE,
                "public int union 2" + INDEX + ARGUMENT + STATE,
                "public int group 4" + INDEX + ARGUMENT + STATE,
                "public int distinct 1" + INDEX + STATE,
                "public int drop 0" + STATE,
                "public int width 1" + INDEX,
                "public int rows 1" + INDEX,
                "public int cell 3" + INDEX + ELEMENT,
                "public long times 2" + INDEX + ELEMENT,
                "public long many 5" + INDEX,
                "public int moved 1" + INDEX);
        Check.holds("the methods are " + seen, seen.equals(due));
    }

    private static String describe(Method method) {
        StringBuilder text = new StringBuilder();
        text.append(Modifier.toString(method.getModifiers())).append(' ');
        text.append(method.getReturnType().getName()).append(' ');
        text.append(method.getName()).append(' ').append(method.getParameterCount());
        for (Class<?> parameter : method.getParameterTypes()) {
            Check.holds("parameters are ints", parameter == int.class);
        }
        for (Class<?> thrown : method.getExceptionTypes()) {
            text.append(' ').append(thrown.getSimpleName());
        }
        return text.toString();
    }
}
