import java.lang.reflect.Constructor;
import java.lang.reflect.Executable;
import java.lang.reflect.Field;
import java.lang.reflect.Method;
import java.lang.reflect.Modifier;
import java.util.Arrays;
import java.util.TreeSet;
import java.util.stream.Collectors;

/** The members of the class are those of the document's face, with their types and exceptions, and no other. */
public final class FaceTest {
    private static final String[] FACE = {
        "int NONE",
        "LineCodes()",
        "int write(int,long) IllegalArgumentException",
        "int wipe()",
        "int pack()",
        "int symbol(int)",
        "int bars(int) IllegalArgumentException IllegalStateException",
        "int checkFigure(long) IllegalArgumentException",
        "int thirteen(long,int) IllegalArgumentException",
        "int put(int,long) IllegalArgumentException",
        "int clear()",
        "int width(int)",
        "int spoil(int,int) IndexOutOfBoundsException IllegalArgumentException",
        "int turn()",
        "int read()",
        "int sign(int)",
        "boolean backwards()",
    };

    public static void main(String[] args) {
        TreeSet<String> found = new TreeSet<>();
        for (Field field : LineCodes.class.getDeclaredFields()) {
            if (!Modifier.isPrivate(field.getModifiers())) {
                found.add(field.getType() + " " + field.getName());
            }
        }
        for (Constructor<?> constructor : LineCodes.class.getDeclaredConstructors()) {
            if (!Modifier.isPrivate(constructor.getModifiers())) {
                found.add("LineCodes" + described(constructor));
            }
        }
        for (Method method : LineCodes.class.getDeclaredMethods()) {
            if (!Modifier.isPrivate(method.getModifiers())) {
                found.add(method.getReturnType() + " " + method.getName() + described(method));
            }
        }
        Checks checks = new Checks();
        checks.due("the face", found, new TreeSet<>(Arrays.asList(FACE)));
        checks.due("the modifiers", Modifier.toString(LineCodes.class.getModifiers()), "public final");
        checks.due("NONE", LineCodes.NONE, -1);
        checks.end();
    }

    private static String described(Executable member) {
        String parameters = Arrays.stream(member.getParameterTypes())
            .map(Class::getSimpleName).collect(Collectors.joining(",", "(", ")"));
        String exceptions = Arrays.stream(member.getExceptionTypes())
            .map(type -> " " + type.getSimpleName()).collect(Collectors.joining());
        return parameters + exceptions;
    }
}
