import java.lang.reflect.Constructor;
import java.lang.reflect.Field;
import java.lang.reflect.Method;
import java.lang.reflect.Modifier;
import java.util.TreeSet;

/** The public face, and rule 1 of LANGUAGE.md. */
public final class FaceTest {
    private static final String[] FACE = {
        "int plug(int,int,int,int) NoSuchElementException IllegalArgumentException IllegalStateException",
        "int unplug(int,int) NoSuchElementException IllegalArgumentException IllegalStateException",
        "void reset(int,int,boolean,boolean) NoSuchElementException",
        "int ask(int,int,int,int,int,int) NoSuchElementException IllegalArgumentException"
                + " IllegalStateException UnsupportedOperationException",
        "void talk(int,int,int) NoSuchElementException IllegalArgumentException",
        "void time(int) IllegalArgumentException",
        "int tick(int) IllegalArgumentException",
        "int ended(int,int) NoSuchElementException IllegalArgumentException IllegalStateException",
        "int value(int,int) NoSuchElementException IllegalArgumentException IllegalStateException"
                + " UnsupportedOperationException",
        "int about(int,int) NoSuchElementException IllegalArgumentException",
        "int word(int,int) NoSuchElementException IllegalArgumentException",
        "int count(int)",
    };

    public static void main(String[] args) {
        Class<?> face = SerialBus.class;
        Due.is("class is public and final", face.getModifiers() & 0x11, 0x11);
        TreeSet<String> due = new TreeSet<>(java.util.List.of(FACE));
        TreeSet<String> got = new TreeSet<>();
        for (Method method : face.getDeclaredMethods()) {
            if (!Modifier.isPrivate(method.getModifiers()) && !method.isSynthetic()) {
                got.add(line(method));
                Due.is(method.getName() + " is public", Modifier.isPublic(method.getModifiers()), true);
            }
        }
        Due.is("methods", got, due);
        for (Field field : face.getDeclaredFields()) {
            Due.is(field + " is private", Modifier.isPrivate(field.getModifiers()), true);
        }
        Constructor<?>[] constructors = face.getDeclaredConstructors();
        Due.is("constructors", constructors.length, 1);
        Due.is("its parameters", constructors[0].getParameterCount(), 0);
        Due.is("it is public", Modifier.isPublic(constructors[0].getModifiers()), true);
        Due.finish();
    }

    private static String line(Method method) {
        StringBuilder text = new StringBuilder();
        text.append(method.getReturnType()).append(' ').append(method.getName()).append('(');
        for (int i = 0; i < method.getParameterCount(); i++) {
            text.append(i == 0 ? "" : ",").append(method.getParameterTypes()[i]);
        }
        text.append(')');
        for (Class<?> thrown : method.getExceptionTypes()) {
            text.append(' ').append(thrown.getSimpleName());
        }
        return text.toString();
    }
}
