import java.lang.reflect.Constructor;
import java.lang.reflect.Field;
import java.lang.reflect.Method;
import java.lang.reflect.Modifier;
import java.util.TreeSet;

/** The class shows the document's face, the declared exceptions too, and nothing else (LANGUAGE.md, rules 1 and 5). */
public final class FaceTest {
    private static final Checks CHECKS = new Checks();

    private static final String FACE = """
            boolean has(int)
            int ahead(int) IndexOutOfBoundsException
            int at(int) IndexOutOfBoundsException
            int carry(int,int) IndexOutOfBoundsException IllegalArgumentException
            int daysTo(int,int) IndexOutOfBoundsException
            int first()
            int from(int)
            int gapBehind(int) IndexOutOfBoundsException
            int load(int,int) IndexOutOfBoundsException
            int loaded(int) IndexOutOfBoundsException
            int mark(int) IndexOutOfBoundsException
            int moved()
            int next(int) IndexOutOfBoundsException
            int passDay()
            int previous(int) IndexOutOfBoundsException
            int putBehind(int) IndexOutOfBoundsException IllegalStateException
            int putFirst() IllegalStateException
            int read(int) IndexOutOfBoundsException
            int seat(int,int) IndexOutOfBoundsException
            int size()
            int spread(int) IndexOutOfBoundsException
            int takeOut(int) IndexOutOfBoundsException
            int wouldMove(int) IndexOutOfBoundsException
            """;

    public static void main(String[] args) {
        Class<?> kind = ShelfMarks.class;
        CHECKS.same("the class", "public final", Modifier.toString(kind.getModifiers()));
        methods(kind);
        constructors(kind);
        fields(kind);
        CHECKS.end("FaceTest");
    }

    private static void methods(Class<?> kind) {
        TreeSet<String> shown = new TreeSet<>();
        TreeSet<String> shownNames = new TreeSet<>();
        for (Method method : kind.getDeclaredMethods()) {
            if (!Modifier.isPrivate(method.getModifiers())) {
                shown.add(told(method));
                shownNames.add(method.getName());
            }
        }
        CHECKS.same("the methods", FACE, String.join("\n", shown) + "\n");
        for (Method method : kind.getDeclaredMethods()) {
            if (Modifier.isPrivate(method.getModifiers())) {
                CHECKS.same("the private method " + method.getName() + " bears a public one's name", 0,
                        shownNames.contains(method.getName()) ? 1 : 0);
            }
        }
    }

    private static String told(Method method) {
        StringBuilder text = new StringBuilder();
        String modifiers = Modifier.toString(method.getModifiers());
        text.append(modifiers.equals("public") ? "" : modifiers + " ");
        text.append(method.getReturnType().getSimpleName()).append(' ').append(method.getName()).append('(');
        for (int i = 0; i < method.getParameterCount(); i++) {
            text.append(i == 0 ? "" : ",").append(method.getParameterTypes()[i].getSimpleName());
        }
        text.append(')');
        for (Class<?> exception : method.getExceptionTypes()) {
            text.append(' ').append(exception.getSimpleName());
        }
        return text.toString();
    }

    private static void constructors(Class<?> kind) {
        Constructor<?>[] all = kind.getDeclaredConstructors();
        CHECKS.same("the constructors", 1, all.length);
        CHECKS.same("the constructor", "public ShelfMarks()", all[0].toString());
    }

    private static void fields(Class<?> kind) {
        for (Field field : kind.getDeclaredFields()) {
            int modifiers = field.getModifiers();
            CHECKS.same("the field " + field.getName() + " is private", 1, Modifier.isPrivate(modifiers) ? 1 : 0);
            CHECKS.same("the field " + field.getName() + ", if static, is final", 1,
                    !Modifier.isStatic(modifiers) || Modifier.isFinal(modifiers) ? 1 : 0);
        }
    }
}
