import java.lang.reflect.Constructor;
import java.lang.reflect.Field;
import java.lang.reflect.Method;
import java.lang.reflect.Modifier;
import java.util.Set;
import java.util.TreeSet;

/** The public face is the document's, and nothing else can be seen from outside. */
public final class FaceTest {
    private static final Set<String> METHODS = Set.of(
        "setting/4", "symbol/1", "empty/0", "at/1", "told/1", "code/2", "string/2", "write/0",
        "more/1", "cut/1", "flip/2", "octet/1", "read/0", "fault/0");

    public static void main(String[] args) {
        int modifiers = LzwForms.class.getModifiers();
        Due.holds("public final class", Modifier.isPublic(modifiers) && Modifier.isFinal(modifiers));
        methodsAreTheDocuments();
        fieldsAreTheDocuments();
        Constructor<?>[] constructors = LzwForms.class.getDeclaredConstructors();
        Due.is("constructors", constructors.length, 1);
        Due.holds("public LzwForms()", Modifier.isPublic(constructors[0].getModifiers())
            && constructors[0].getParameterCount() == 0);
        Due.is("NONE", LzwForms.NONE, -1);
        Due.is("OUTSIDE", LzwForms.OUTSIDE, -2);
        Due.is("STATE", LzwForms.STATE, -3);
        Due.is("ROOM", LzwForms.ROOM, -4);
        Due.end();
    }

    private static void methodsAreTheDocuments() {
        Set<String> seen = new TreeSet<>();
        Set<String> names = new TreeSet<>();
        for (String one : METHODS) {
            names.add(one.substring(0, one.indexOf('/')));
        }
        for (Method method : LzwForms.class.getDeclaredMethods()) {
            boolean isPrivate = Modifier.isPrivate(method.getModifiers());
            if (isPrivate) {
                Due.holds("name of private " + method.getName(), !names.contains(method.getName()));
                continue;
            }
            seen.add(method.getName() + "/" + method.getParameterCount());
            Due.holds("public " + method.getName(), Modifier.isPublic(method.getModifiers())
                && !Modifier.isStatic(method.getModifiers()));
            Due.holds("int " + method.getName(), method.getReturnType() == int.class);
            for (Class<?> type : method.getParameterTypes()) {
                Due.holds("int parameters of " + method.getName(), type == int.class);
            }
        }
        Due.holds("the methods " + seen, seen.equals(METHODS));
    }

    private static void fieldsAreTheDocuments() {
        Set<String> seen = new TreeSet<>();
        for (Field field : LzwForms.class.getDeclaredFields()) {
            int modifiers = field.getModifiers();
            if (!Modifier.isPrivate(modifiers)) {
                seen.add(field.getName());
                Due.holds("public static final int " + field.getName(), Modifier.isPublic(modifiers)
                    && Modifier.isStatic(modifiers) && Modifier.isFinal(modifiers)
                    && field.getType() == int.class);
            }
        }
        Due.holds("the constants " + seen, seen.equals(Set.of("NONE", "OUTSIDE", "STATE", "ROOM")));
    }
}
