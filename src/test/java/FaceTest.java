import java.lang.reflect.Constructor;
import java.lang.reflect.Field;
import java.lang.reflect.Method;
import java.lang.reflect.Modifier;
import java.util.Set;
import java.util.TreeSet;

/** The public face: the document's members and no other that is not private. */
public final class FaceTest {
    private static final Set<String> FACE = Set.of(
        "boolean type(int, int)", "int take()", "boolean free()", "boolean holds(int)", "boolean some()",
        "boolean all()", "int next(int)", "int last(int)", "boolean again(boolean)", "int count(int, int)",
        "int period()");

    public static void main(String[] args) {
        Due check = new Due();
        Set<String> found = new TreeSet<>();
        for (Method method : LineClaims.class.getDeclaredMethods()) {
            boolean seen = !Modifier.isPrivate(method.getModifiers()) && !method.isSynthetic();
            if (seen) {
                check.due("whether " + method + " is public", Modifier.isPublic(method.getModifiers()), true);
                found.add(shape(method));
            }
        }
        System.out.println("the face is " + found);
        check.due("whether the face is the document's", found.equals(FACE), true);
        for (Field field : LineClaims.class.getDeclaredFields()) {
            check.due("whether " + field + " is private", Modifier.isPrivate(field.getModifiers()), true);
        }
        Constructor<?>[] constructors = LineClaims.class.getDeclaredConstructors();
        check.due("constructors", constructors.length, 1);
        check.due("whether it is public", Modifier.isPublic(constructors[0].getModifiers()), true);
        check.due("its parameters", constructors[0].getParameterCount(), 0);
        int modifiers = LineClaims.class.getModifiers();
        check.due("whether the class is public and final", Modifier.isPublic(modifiers) && Modifier.isFinal(modifiers), true);
        check.end();
    }

    private static String shape(Method method) {
        StringBuilder shape = new StringBuilder(method.getReturnType().getName());
        shape.append(' ').append(method.getName()).append('(');
        for (Class<?> parameter : method.getParameterTypes()) {
            shape.append(shape.charAt(shape.length() - 1) == '(' ? "" : ", ").append(parameter.getName());
        }
        return shape.append(')').toString();
    }
}
