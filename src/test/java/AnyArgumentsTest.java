import java.lang.reflect.InvocationTargetException;
import java.lang.reflect.Method;
import java.util.ArrayList;
import java.util.Comparator;
import java.util.List;

/**
 * "No call may ever throw or fail to end, for any arguments in any state", and "the same calls always give the same answers":
 * two objects are asked the same thrown calls in turns, a third one other calls between them.
 */
public final class AnyArgumentsTest {
    private static final int OBJECTS = 400, CALLS = 512;
    private static final int[] BRINKS = {Integer.MIN_VALUE, Integer.MIN_VALUE + 1, -1000, -51, -50, -3, -2, -1, 7, 8, 13, 14, 16, 19,
        20, 31, 32, 33, 39, 40, 48, 50, 51, 60, 61, 63, 64, 79, 80, 100, 101, 127, 128, 200, 201, 249, 250, 255, 256, 999, 1000,
        1001, 1023, 1024, 9998, 9999, 10000, 10001, 12000, 12001, 16383, 16384, 65535, 65536, 1 << 30, Integer.MAX_VALUE};

    private final Dice dice;

    private AnyArgumentsTest(int object) {
        dice = new Dice(object);
    }

    public static void main(String[] args) throws Exception {
        List<Method> all = new ArrayList<>();
        for (Method m : SenateRoll.class.getDeclaredMethods()) {
            if (java.lang.reflect.Modifier.isPublic(m.getModifiers())) {
                all.add(m);
            }
        }
        all.sort(Comparator.comparing(Method::getName));
        for (int object = 1; object <= OBJECTS; object++) {
            new AnyArgumentsTest(object).play(all);
        }
        Check.end("AnyArgumentsTest");
    }

    private void play(List<Method> all) throws Exception {
        SenateRoll x = new SenateRoll();
        SenateRoll twin = new SenateRoll();
        SenateRoll other = new SenateRoll();
        for (int call = 0; call < CALLS; call++) {
            Method m = all.get(dice.below(all.size()));
            Object[] told = thrown(m);
            Object got = answer(m, x, told);
            Method between = all.get(dice.below(all.size()));
            answer(between, other, thrown(between));
            Check.same("twice " + m.getName() + java.util.Arrays.toString(told), got.equals(answer(m, twin, told)) ? 1 : 0, 1);
        }
    }

    private static Object answer(Method m, SenateRoll x, Object[] told) throws Exception {
        try {
            return m.invoke(x, told);
        } catch (InvocationTargetException e) {
            Check.same(m.getName() + java.util.Arrays.toString(told) + " threw " + e.getCause(), 1, 0);
            return "";
        }
    }

    /** Small numbers more often than not, so that much is told and asked of what is there. */
    private Object[] thrown(Method m) {
        Class<?>[] types = m.getParameterTypes();
        Object[] told = new Object[types.length];
        boolean far = dice.oneIn(6);
        for (int i = 0; i < types.length; i++) {
            if (types[i] == boolean.class) {
                told[i] = dice.oneIn(2);
            } else if (far) {
                told[i] = dice.oneIn(2) ? dice.oneOf(BRINKS) : dice.below(10) == 0 ? dice.below(Integer.MAX_VALUE) : dice.below(20);
            } else {
                told[i] = dice.oneIn(8) ? dice.below(120) : dice.below(5);
            }
        }
        if (m.getName().equals("write") && dice.oneIn(2)) {
            told[1] = (int) "0123456789 ()<>=+-*/ mean best if else unless or and not mark tries".charAt(dice.below(66));
        }
        if (m.getName().equals("course") && dice.oneIn(2)) {
            told[1] = 0;
            told[2] = 1 + dice.below(7);
        }
        return told;
    }
}
