import java.lang.reflect.Constructor;
import java.lang.reflect.Field;
import java.lang.reflect.Method;
import java.lang.reflect.Modifier;
import java.util.Arrays;
import java.util.Set;
import java.util.TreeSet;

/** The class has the document's public face and shows nothing else. */
public final class FaceTest {
    private static final String NONE = "java.util.NoSuchElementException";
    private static final String WRONG = "java.lang.IllegalArgumentException";
    private static final String NOT_NOW = "java.lang.IllegalStateException";

    private FaceTest() {
    }

    public static void main(String[] args) {
        Set<String> due = new TreeSet<>(Arrays.asList(
                "space/3 " + WRONG, "limit/1 " + WRONG, "make/2 " + WRONG,
                "set/3 " + NONE, "get/2 " + NONE, "put/3 " + NONE, "word/2 " + NONE,
                "root/2 " + NONE, "rooted/1 " + NONE, "collect/0 " + NOT_NOW,
                "about/2 " + NONE + " " + WRONG, "next/1 " + NONE, "count/1 " + WRONG));
        Check.same("face: methods", shownMethods().toString(), due.toString());
        Check.same("face: fields", shownFields().toString(), "[]");
        Check.same("face: constructors", constructors(), "public NurseryRow() ");
        int modifiers = NurseryRow.class.getModifiers();
        Check.same("face: class", Modifier.toString(modifiers), "public final");
        Check.same("face: private methods with a public one's name", sharedNames().toString(), "[]");
        Check.same("face: classes inside", shownClasses().toString(), "[]");
        Check.end();
    }

    private static Set<String> sharedNames() {
        Set<String> open = new TreeSet<>();
        Set<String> hidden = new TreeSet<>();
        for (Method method : NurseryRow.class.getDeclaredMethods()) {
            (Modifier.isPublic(method.getModifiers()) ? open : hidden).add(method.getName());
        }
        hidden.retainAll(open);
        return hidden;
    }

    /** Classes inside that are public, protected or not static. */
    private static Set<String> shownClasses() {
        Set<String> shown = new TreeSet<>();
        for (Class<?> inside : NurseryRow.class.getDeclaredClasses()) {
            int modifiers = inside.getModifiers();
            if (Modifier.isPublic(modifiers) || Modifier.isProtected(modifiers) || !Modifier.isStatic(modifiers)) {
                shown.add(inside.getSimpleName());
            }
        }
        return shown;
    }

    private static Set<String> shownMethods() {
        Set<String> shown = new TreeSet<>();
        for (Method method : NurseryRow.class.getDeclaredMethods()) {
            if (Modifier.isPrivate(method.getModifiers()) || method.isSynthetic()) {
                continue;
            }
            StringBuilder text = new StringBuilder();
            text.append(method.getName()).append('/').append(method.getParameterCount());
            for (Class<?> type : method.getExceptionTypes()) {
                text.append(' ').append(type.getName());
            }
            if (!Modifier.toString(method.getModifiers()).equals("public") || !isOfInts(method)) {
                text.append(" of another kind");
            }
            shown.add(text.toString());
        }
        return shown;
    }

    private static boolean isOfInts(Method method) {
        for (Class<?> type : method.getParameterTypes()) {
            if (type != int.class) {
                return false;
            }
        }
        return method.getReturnType() == int.class;
    }

    private static Set<String> shownFields() {
        Set<String> shown = new TreeSet<>();
        for (Field field : NurseryRow.class.getDeclaredFields()) {
            if (!Modifier.isPrivate(field.getModifiers()) && !field.isSynthetic()) {
                shown.add(field.getName());
            }
        }
        return shown;
    }

    private static String constructors() {
        StringBuilder text = new StringBuilder();
        for (Constructor<?> constructor : NurseryRow.class.getDeclaredConstructors()) {
            text.append(constructor).append(' ');
        }
        return text.toString();
    }
}
