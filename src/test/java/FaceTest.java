import java.lang.reflect.Constructor;
import java.lang.reflect.Executable;
import java.lang.reflect.Field;
import java.lang.reflect.Method;
import java.lang.reflect.Modifier;
import java.util.Set;
import java.util.StringJoiner;
import java.util.TreeSet;

/** 'The public face': every member with its parameters and its exceptions, and no other that is not private. */
final class FaceTest {
    private static final String ARGUMENT = " throws IllegalArgumentException";
    private static final String ARGUMENT_STATE = " throws IllegalArgumentException, IllegalStateException";
    private static final Set<String> FACE = Set.of(
            "public SharedFibre()",
            "public int plug(int, int)" + ARGUMENT_STATE,
            "public void unplug(int)" + ARGUMENT,
            "public void contract(int, int, int, int, int, int)" + ARGUMENT_STATE,
            "public void drift(int, int)" + ARGUMENT,
            "public int send(int, int, int)" + ARGUMENT_STATE,
            "public void key(int, int)" + ARGUMENT_STATE,
            "public void down(int, int)" + ARGUMENT,
            "public void spoil(int)" + ARGUMENT,
            "public void feeder(int, boolean)" + ARGUMENT,
            "public void discover()",
            "public int frame()",
            "public int unit(int, int)" + ARGUMENT,
            "public int container(int, int, int)" + ARGUMENT,
            "public int came(int, int) throws IndexOutOfBoundsException, IllegalArgumentException",
            "public int count(int)" + ARGUMENT);

    public static void main(String[] args) {
        Check check = new Check();
        Class<?> face = SharedFibre.class;
        check.text("the class", Modifier.toString(face.getModifiers()) + " " + face.getName(),
                "public final SharedFibre");
        check.text("its superclass", face.getSuperclass().getName(), "java.lang.Object");
        check.is("its interfaces", face.getInterfaces().length, 0);
        check.is("its type parameters", face.getTypeParameters().length, 0);
        check.text("its members", new TreeSet<>(members(face)).toString(), new TreeSet<>(FACE).toString());
        check.end();
    }

    private static Set<String> members(Class<?> face) {
        Set<String> members = new TreeSet<>();
        for (Field f : face.getDeclaredFields()) {
            if (!Modifier.isPrivate(f.getModifiers())) {
                members.add(f.toString());
            }
        }
        for (Constructor<?> c : face.getDeclaredConstructors()) {
            add(members, c, face.getSimpleName());
        }
        for (Method m : face.getDeclaredMethods()) {
            add(members, m, m.getReturnType().getSimpleName() + " " + m.getName());
        }
        return members;
    }

    private static void add(Set<String> members, Executable member, String name) {
        if (!Modifier.isPrivate(member.getModifiers())) {
            String thrown = listed(member.getExceptionTypes());
            members.add(Modifier.toString(member.getModifiers()) + " " + name
                    + "(" + listed(member.getParameterTypes()) + ")"
                    + (thrown.isEmpty() ? "" : " throws " + thrown));
        }
    }

    private static String listed(Class<?>[] types) {
        StringJoiner list = new StringJoiner(", ");
        for (Class<?> type : types) {
            list.add(type.getSimpleName());
        }
        return list.toString();
    }
}
