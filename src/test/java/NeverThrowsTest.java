import java.lang.reflect.InvocationTargetException;
import java.lang.reflect.Method;
import java.lang.reflect.Modifier;
import java.util.ArrayList;
import java.util.List;
import java.util.Random;

/**
 * Rule 7 of ../shared/LANGUAGE.md: no call may ever throw, for any arguments in any state. An object is used here for far
 * more than 512 calls, behind which its answers are free; that it throws is not.
 */
public final class NeverThrowsTest {
    private static final Check check = new Check("NeverThrowsTest");

    private static final int OBJECTS = 40;
    private static final int STEPS = 5000;
    /** One call so often behind itself fills the text, the row of acts, what is seen, and a house. */
    private static final int OFTEN = 400;
    private static final String[] LANES = {
        "A", "AH099m", "AH199rH199l", "AH049rH169rH352rH289lH435m", "AH499lH099rH199lH299mH399rH199r", "AH39", "BH000m",
    };
    private static final long[] ODD = {
        Long.MIN_VALUE, Long.MAX_VALUE, Integer.MIN_VALUE, Integer.MAX_VALUE, Integer.MIN_VALUE + 1L, Integer.MAX_VALUE - 1L,
        1L << 32, -1L << 32, 1L << 40, 999999999999L, 1000000000000L, 9999999999999999L, 10000000000000000L, 204114311001L,
    };

    public static void main(String[] args) throws IllegalAccessException {
        List<Method> face = new ArrayList<>();
        for (Method method : LeanLane.class.getDeclaredMethods()) {
            if (Modifier.isPublic(method.getModifiers())) {
                face.add(method);
            }
        }
        // Reflection tells methods in no order that is promised, and a run is to be the same each time.
        face.sort((one, other) -> one.getName().compareTo(other.getName()));
        for (int object = 0; object < OBJECTS; object++) {
            play(face, new Random(object));
        }
        check.end();
    }

    private static void play(List<Method> face, Random random) throws IllegalAccessException {
        LeanLane lane = new LeanLane();
        String thrown = "";
        for (int step = 0; step < STEPS && thrown.isEmpty(); step++) {
            if (random.nextInt(50) == 0) {
                Check.tell(lane, LANES[random.nextInt(LANES.length)]);
                lane.lane();
            }
            Method method = face.get(random.nextInt(face.size()));
            int times = random.nextInt(100) == 0 ? OFTEN : 1;
            for (int i = 0; i < times && thrown.isEmpty(); i++) {
                thrown = thrownBy(method, lane, random);
            }
        }
        check.isTrue("no call throws" + thrown, thrown.isEmpty());
    }

    private static String thrownBy(Method method, LeanLane lane, Random random) throws IllegalAccessException {
        Class<?>[] types = method.getParameterTypes();
        Object[] arguments = new Object[types.length];
        StringBuilder told = new StringBuilder(method.getName());
        for (int i = 0; i < types.length; i++) {
            arguments[i] = anything(types[i], random);
            told.append(' ').append(arguments[i]);
        }
        try {
            method.invoke(lane, arguments);
            return "";
        } catch (InvocationTargetException e) {
            return ": " + told + " threw " + e.getCause();
        }
    }

    private static Object anything(Class<?> type, Random random) {
        if (type == boolean.class) {
            return random.nextBoolean();
        }
        int choice = random.nextInt(10);
        long number = choice == 0 ? random.nextLong() : choice == 1 ? ODD[random.nextInt(ODD.length)] : random.nextInt(14) - 2;
        if (type == long.class) {
            return number;
        }
        return (int) number;
    }
}
