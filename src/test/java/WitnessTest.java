import java.lang.reflect.Constructor;
import java.lang.reflect.Field;
import java.lang.reflect.Method;

/** Promise 20: check is always 0, so only a look at its inside tells that it would count harm. */
public final class WitnessTest {
    public static void main(String[] args) {
        try {
            leaders();
            entries();
        } catch (ReflectiveOperationException e) {
            Due.wrong("the witness can't be looked at: " + e);
        }
        Due.end();
    }

    private static Object witnessOf(RaftRegistry x) throws ReflectiveOperationException {
        Field field = RaftRegistry.class.getDeclaredField("witness");
        field.setAccessible(true);
        return field.get(x);
    }

    private static Object made(String name, Object... arguments) throws ReflectiveOperationException {
        for (Class<?> c : RaftRegistry.class.getDeclaredClasses()) {
            if (c.getSimpleName().equals(name)) {
                Constructor<?> constructor = c.getDeclaredConstructors()[0];
                constructor.setAccessible(true);
                return constructor.newInstance(arguments);
            }
        }
        throw new NoSuchMethodException(name);
    }

    private static void see(Object witness, String what, Object... arguments) throws ReflectiveOperationException {
        for (Method m : witness.getClass().getDeclaredMethods()) {
            if (m.getName().equals(what)) {
                m.setAccessible(true);
                m.invoke(witness, arguments);
                return;
            }
        }
        throw new NoSuchMethodException(what);
    }

    private static void leaders() throws ReflectiveOperationException {
        RaftRegistry x = new RaftRegistry();
        Object witness = witnessOf(x);
        see(witness, "seeLeader", 1, 2);
        see(witness, "seeLeader", 1, 2);
        see(witness, "seeLeader", 2, 3);
        see(witness, "seeLeader", -1, 0);
        see(witness, "seeLeader", Integer.MAX_VALUE, 0);
        Due.is("one leader of each TERM", 0, x.check());
        see(witness, "seeLeader", 1, 3);
        Due.is("two leaders of a TERM", 1, x.check());
        // What a registry does itself is seen, too.
        Play p = new Play();
        see(witnessOf(p.x), "seeLeader", 1, 4);
        p.elect(0);
        Due.is("NODE 0 leads TERM 1", 1, p.x.check());
    }

    private static void entries() throws ReflectiveOperationException {
        int[] numbers = {1, 2, 3, 4, 5, 6, 7};
        for (int i = -1; i <= numbers.length; i++) {
            RaftRegistry x = new RaftRegistry();
            Object witness = witnessOf(x);
            see(witness, "seeApplied", 1, entry(numbers, -2));
            see(witness, "seeApplied", 2, entry(numbers, 3));
            see(witness, "seeApplied", -1, entry(numbers, 3));
            see(witness, "seeApplied", Integer.MAX_VALUE, entry(numbers, 3));
            see(witness, "seeApplied", 1, entry(numbers, -2));
            Due.is("the same ENTRY at each INDEX", 0, x.check());
            see(witness, "seeApplied", 1, entry(numbers, i));
            Due.is("another one, by number " + i, i == numbers.length ? 0 : 1, x.check());
        }
        Play p = new Play();
        see(witnessOf(p.x), "seeApplied", 1, entry(numbers, -2));
        p.elect(0).settle(0);
        Due.is("five NODES apply another ENTRY 1", 5, p.x.check());
    }

    /** An ENTRY of TERM 9 with these numbers; the one at this place is another one, or TERM at -1. */
    private static Object entry(int[] numbers, int other) throws ReflectiveOperationException {
        Object[] arguments = new Object[7];
        for (int i = 0; i < 7; i++) {
            arguments[i] = i == other ? 100 : numbers[i];
        }
        return made("Entry", other == -1 ? 8 : 9, made("Command", arguments));
    }
}
