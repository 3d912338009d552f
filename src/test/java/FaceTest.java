import java.lang.reflect.Constructor;
import java.lang.reflect.Field;
import java.lang.reflect.Method;
import java.lang.reflect.Modifier;
import java.util.Arrays;
import java.util.HashSet;
import java.util.Set;
import java.util.TreeSet;

/** The class has the document's face, and nothing else that can be seen from outside. */
public final class FaceTest {
    private static final String INDEX = " IndexOutOfBoundsException";
    private static final String ARGUMENT = " IllegalArgumentException";
    private static final String STATE = " IllegalStateException";
    private static final String ELEMENT = " NoSuchElementException";
    private static final Set<String> FACE = new TreeSet<>(Arrays.asList(
            "int expire(int)" + INDEX + STATE, "int deliver(int)" + INDEX, "void more(int,int,int,int)",
            "int propose(int,int,int,int)" + INDEX + ARGUMENT + STATE, "int beat(int)" + INDEX + STATE,
            "int shrink(int)" + INDEX + STATE, "void crash(int)" + INDEX + STATE, "int start(int)" + INDEX + STATE,
            "void power(int,int)" + INDEX + ARGUMENT, "int result(int,int)" + INDEX + ELEMENT,
            "int key(int,int,int)" + INDEX + STATE + ARGUMENT,
            "int past(int,int,int)" + INDEX + STATE + ARGUMENT + ELEMENT,
            "long event(int,int,int)" + INDEX + STATE + ARGUMENT, "int message(int,int)" + INDEX + ARGUMENT,
            "int node(int,int)" + INDEX + ARGUMENT, "int entry(int,int)" + INDEX, "long digest(int)" + INDEX + STATE,
            "int messages()", "int check()"));

    public static void main(String[] args) {
        Class<?> c = RaftRegistry.class;
        Due.is("public and final", Modifier.PUBLIC | Modifier.FINAL, c.getModifiers());
        Set<String> seen = new TreeSet<>();
        Set<String> publicNames = new HashSet<>();
        for (Method m : c.getDeclaredMethods()) {
            if (!Modifier.isPrivate(m.getModifiers())) {
                seen.add(told(m));
                publicNames.add(m.getName());
                Due.is(m.getName() + " is public and of an object", Modifier.PUBLIC, m.getModifiers());
            }
        }
        if (!seen.equals(FACE)) {
            Due.wrong("the methods are " + seen + ", due are " + FACE);
        }
        for (Field f : c.getDeclaredFields()) {
            Due.is(f.getName() + " is private", 1, Modifier.isPrivate(f.getModifiers()) ? 1 : 0);
        }
        Constructor<?>[] constructors = c.getDeclaredConstructors();
        Due.is("constructors", 1, constructors.length);
        Due.is("its parameters", 0, constructors[0].getParameterCount());
        Due.is("it is public", Modifier.PUBLIC, constructors[0].getModifiers());
        lookInside(c, publicNames);
        Due.end();
    }

    private static void lookInside(Class<?> c, Set<String> publicNames) {
        for (Class<?> inner : c.getDeclaredClasses()) {
            int m = inner.getModifiers();
            Due.is(inner + " is static, and not public or protected", 1,
                    Modifier.isStatic(m) && !Modifier.isPublic(m) && !Modifier.isProtected(m) ? 1 : 0);
            for (Method own : inner.getDeclaredMethods()) {
                Due.is(own + " bears a public name", 0, publicNames.contains(own.getName()) ? 1 : 0);
            }
        }
    }

    private static String told(Method m) {
        StringBuilder text = new StringBuilder(m.getReturnType().getName());
        text.append(' ').append(m.getName()).append('(');
        for (int i = 0; i < m.getParameterCount(); i++) {
            text.append(i == 0 ? "" : ",").append(m.getParameterTypes()[i].getName());
        }
        text.append(')');
        for (Class<?> e : m.getExceptionTypes()) {
            text.append(' ').append(e.getSimpleName());
        }
        return text.toString();
    }
}
