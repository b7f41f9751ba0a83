import java.lang.reflect.Constructor;
import java.lang.reflect.Field;
import java.lang.reflect.Member;
import java.lang.reflect.Method;
import java.lang.reflect.Modifier;
import java.util.Set;
import java.util.TreeSet;

/** The public face of the document and nothing beside it, as LANGUAGE.md has it too. */
public final class FaceTest {
    private static final Set<String> FACE = Set.of(
        "int put(int,int,int,int)",
        "boolean take(int)",
        "boolean turn(int)",
        "void clear()",
        "boolean ray(int,int,int,int)",
        "int met()",
        "int wall(int)",
        "boolean isRight(int)",
        "long times(int,int)",
        "int along(int)",
        "int within(int,int)",
        "int on(int,int)",
        "int of(int,int)",
        "int look(int)");

    public static void main(String[] args) {
        Due due = new Due();
        due.promise("the public face");
        int modifiers = RayField.class.getModifiers();
        due.is("public", Modifier.isPublic(modifiers), true);
        due.is("final", Modifier.isFinal(modifiers), true);
        Set<String> face = new TreeSet<>();
        for (Method method : RayField.class.getDeclaredMethods()) {
            if (isSeen(method)) {
                face.add(written(method));
            }
        }
        due.is("methods " + face, face.equals(FACE), true);
        Set<String> fields = new TreeSet<>();
        for (Field field : RayField.class.getDeclaredFields()) {
            if (isSeen(field)) {
                fields.add(field.toString());
            }
        }
        due.is("fields " + fields,
            fields.equals(Set.of("public static final int RayField.NONE")), true);
        Constructor<?>[] constructors = RayField.class.getDeclaredConstructors();
        due.is("constructors", constructors.length, 1);
        due.is("its parameters", constructors[0].getParameterCount(), 0);
        due.is("public constructor", Modifier.isPublic(constructors[0].getModifiers()), true);
        due.is("interfaces", RayField.class.getInterfaces().length, 0);
        due.is("superclass " + RayField.class.getSuperclass(), RayField.class.getSuperclass() == Object.class, true);
        languageOfTheFace(due);
        due.end();
    }

    /** What LANGUAGE.md asks of the members that are not seen. */
    private static void languageOfTheFace(Due due) {
        due.promise("LANGUAGE.md, rule 1");
        Set<String> publicNames = new TreeSet<>();
        for (Method method : RayField.class.getMethods()) {
            publicNames.add(method.getName());
        }
        for (Method method : RayField.class.getDeclaredMethods()) {
            if (!isSeen(method)) {
                due.is(method + " has a public name", publicNames.contains(method.getName()), false);
            }
        }
        for (Class<?> inside : RayField.class.getDeclaredClasses()) {
            int modifiers = inside.getModifiers();
            due.is(inside + " is static", Modifier.isStatic(modifiers), true);
            due.is(inside + " is seen outside", Modifier.isPublic(modifiers) || Modifier.isProtected(modifiers), false);
        }
        due.promise("LANGUAGE.md, rule 5");
        for (Field field : RayField.class.getDeclaredFields()) {
            int modifiers = field.getModifiers();
            boolean changes = Modifier.isStatic(modifiers) && !Modifier.isFinal(modifiers);
            due.is(field + " is static and changes", changes, false);
        }
    }

    private static boolean isSeen(Member member) {
        return !Modifier.isPrivate(member.getModifiers()) && !member.isSynthetic();
    }

    private static String written(Method method) {
        StringBuilder parameters = new StringBuilder();
        for (Class<?> type : method.getParameterTypes()) {
            parameters.append(parameters.length() == 0 ? "" : ",").append(type);
        }
        return method.getReturnType() + " " + method.getName() + "(" + parameters + ")";
    }
}
