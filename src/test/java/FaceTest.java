import java.lang.reflect.Constructor;
import java.lang.reflect.Field;
import java.lang.reflect.Method;
import java.lang.reflect.Modifier;
import java.util.Arrays;
import java.util.HashSet;
import java.util.Set;
import java.util.TreeSet;

/** The class has the document's face, and nothing else that can be seen from outside. */
public final class FaceTest {
    private static final Set<String> FACE = new TreeSet<>(Arrays.asList(
            "int expire(int)", "int deliver(int)", "void more(int,int,int,int)", "int propose(int,int,int,int)",
            "int beat(int)", "int shrink(int)", "void crash(int)", "int start(int)", "void power(int,int)",
            "int result(int,int)", "int key(int,int,int)", "int past(int,int,int)", "long event(int,int,int)",
            "int message(int,int)", "int node(int,int)", "int entry(int,int)", "long digest(int)", "int messages()",
            "int check()"));

    public static void main(String[] args) {
        Class<?> c = RaftRegistry.class;
        Due.is("public and final", Modifier.PUBLIC | Modifier.FINAL, c.getModifiers());
        Set<String> seen = new TreeSet<>();
        Set<String> publicNames = new HashSet<>();
        for (Method m : c.getDeclaredMethods()) {
            if (!Modifier.isPrivate(m.getModifiers())) {
                seen.add(told(m));
                publicNames.add(m.getName());
                Due.is(m.getName() + " is public and of an object", Modifier.PUBLIC, m.getModifiers());
            }
        }
        if (!seen.equals(FACE)) {
            Due.wrong("the methods are " + seen + ", due are " + FACE);
        }
        for (Field f : c.getDeclaredFields()) {
            Due.is(f.getName() + " is private", 1, Modifier.isPrivate(f.getModifiers()) ? 1 : 0);
        }
        Constructor<?>[] constructors = c.getDeclaredConstructors();
        Due.is("constructors", 1, constructors.length);
        Due.is("its parameters", 0, constructors[0].getParameterCount());
        Due.is("it is public", Modifier.PUBLIC, constructors[0].getModifiers());
        lookInside(c, publicNames);
        Due.end();
    }

    private static void lookInside(Class<?> c, Set<String> publicNames) {
        for (Class<?> inner : c.getDeclaredClasses()) {
            int m = inner.getModifiers();
            Due.is(inner + " is static, and not public or protected", 1,
                    Modifier.isStatic(m) && !Modifier.isPublic(m) && !Modifier.isProtected(m) ? 1 : 0);
            for (Method own : inner.getDeclaredMethods()) {
                Due.is(own + " bears a public name", 0, publicNames.contains(own.getName()) ? 1 : 0);
            }
        }
    }

    private static String told(Method m) {
        StringBuilder text = new StringBuilder(m.getReturnType().getName());
        text.append(' ').append(m.getName()).append('(');
        for (int i = 0; i < m.getParameterCount(); i++) {
            text.append(i == 0 ? "" : ",").append(m.getParameterTypes()[i].getName());
        }
        return text.append(')').toString();
    }
}
