import java.lang.reflect.Constructor;
import java.lang.reflect.Field;
import java.lang.reflect.Method;
import java.lang.reflect.Modifier;
import java.util.Arrays;
import java.util.Set;
import java.util.TreeSet;
import java.util.stream.Collectors;

/** The public face: just the constants, the constructor and the methods of the document. */
public final class FaceTest {
    private static final Set<String> CONSTANTS = Set.of("NONE", "DAMAGED", "FULL", "LINKED");
    private static final Set<String> METHODS = Set.of(
            "boolean begin()", "boolean update(long,int,int)", "boolean link(long,long)",
            "int commit()", "int abort()", "int get(long)", "long target(long)",
            "int resolve(long)", "long scan(long,int)", "int log(long,int,int)", "int compact()",
            "int expire(int)", "int tables()", "int size(int)", "int byteAt(int,int)",
            "boolean damage(int,int,int)", "boolean sound(int)", "int records(int)");

    private static String textOf(Method method) {
        String parameters = Arrays.stream(method.getParameterTypes())
                .map(Class::getSimpleName).collect(Collectors.joining(","));
        return method.getReturnType().getSimpleName() + " " + method.getName() + "(" + parameters + ")";
    }

    private static boolean isPublicOrPrivate(int modifiers) {
        return Modifier.isPublic(modifiers) || Modifier.isPrivate(modifiers);
    }

    public static void main(String[] args) {
        Due due = new Due();
        Class<?> face = RefStack.class;
        due.about("face");
        due.is("public and final", face.getModifiers(), Modifier.PUBLIC | Modifier.FINAL);
        Set<String> constants = new TreeSet<>();
        for (Field field : face.getDeclaredFields()) {
            due.is(field.getName() + " public or private", isPublicOrPrivate(field.getModifiers()), true);
            if (Modifier.isPublic(field.getModifiers())) {
                constants.add(field.getName());
                due.is(field.getName() + " int", field.getType() == int.class, true);
                due.is(field.getName() + " static final",
                        Modifier.isStatic(field.getModifiers()) && Modifier.isFinal(field.getModifiers()), true);
            }
        }
        due.is("the constants", constants.equals(CONSTANTS), true);
        Set<String> methods = new TreeSet<>();
        Set<String> publicNames = new TreeSet<>();
        for (Method method : face.getDeclaredMethods()) {
            due.is(method.getName() + " public or private", isPublicOrPrivate(method.getModifiers()), true);
            if (Modifier.isPublic(method.getModifiers())) {
                methods.add(textOf(method));
                publicNames.add(method.getName());
            }
        }
        due.is("the methods", methods.equals(METHODS), true);
        for (Method method : face.getDeclaredMethods()) {
            if (Modifier.isPrivate(method.getModifiers())) {
                due.is(method.getName() + " bears a public name", publicNames.contains(method.getName()), false);
            }
        }
        Constructor<?>[] constructors = face.getDeclaredConstructors();
        due.is("constructors", constructors.length, 1);
        due.is("parameters of the constructor", constructors[0].getParameterCount(), 0);
        for (Class<?> inside : face.getDeclaredClasses()) {
            due.is(inside.getName() + " is static", Modifier.isStatic(inside.getModifiers()), true);
            due.is(inside.getName() + " is public or protected",
                    Modifier.isPublic(inside.getModifiers()) || Modifier.isProtected(inside.getModifiers()), false);
        }
        due.is("NONE", RefStack.NONE, -1);
        due.is("DAMAGED", RefStack.DAMAGED, -2);
        due.is("FULL", RefStack.FULL, -3);
        due.is("LINKED", RefStack.LINKED, -4);
        due.end();
    }
}
