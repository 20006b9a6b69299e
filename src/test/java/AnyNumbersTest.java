import java.lang.reflect.InvocationTargetException;
import java.lang.reflect.Method;
import java.lang.reflect.Modifier;
import java.util.ArrayList;
import java.util.Arrays;
import java.util.Comparator;
import java.util.List;

/**
 * LANGUAGE.md's rule 7: no call throws, whatever its numbers are and whatever
 * was called before. Calls beyond the 512th answer what they like, but do not
 * throw either; only what an object has answered until then is compared, with
 * that of a second object that got the same calls (rule 13).
 */
public final class AnyNumbersTest {
    private static final int OBJECTS = 400, PROMISED = 512, CALLS = 3000;
    private static final long[] WILD = {-1, -2, 4, 5, 8, 12, 13, 20, 21, 30, 31, 40, 100, 200, 600,
        Integer.MAX_VALUE, Integer.MIN_VALUE, Integer.MAX_VALUE - 1, Integer.MIN_VALUE + 1};
    private static final long[] WIDEST = {Long.MAX_VALUE, Long.MIN_VALUE, Long.MIN_VALUE + 1, 1L << 32};
    private static final Checks checks = new Checks("AnyNumbersTest");

    private long state;

    private AnyNumbersTest(int seed) {
        state = seed * 6151L + 7;
    }

    public static void main(String[] args) throws IllegalAccessException {
        List<Method> calls = new ArrayList<>();
        for (Method call : PuppetCast.class.getDeclaredMethods()) {
            if (Modifier.isPublic(call.getModifiers())) {
                calls.add(call);
            }
        }
        calls.sort(Comparator.comparing(Method::getName));
        for (int seed = 0; seed < OBJECTS && checks.wrong() == 0; seed++) {
            new AnyNumbersTest(seed).go(calls, seed);
        }
        checks.end();
    }

    private void go(List<Method> calls, int seed) throws IllegalAccessException {
        PuppetCast x = new PuppetCast();
        PuppetCast twin = new PuppetCast();
        for (int i = 0; i < CALLS && checks.wrong() == 0; i++) {
            Method call = calls.get(below(calls.size()));
            Object[] numbers = numbersFor(call, below(4) == 0);
            String told = "object " + seed + ", call " + i + ", " + call.getName() + Arrays.toString(numbers);
            long answer = answerOf(told, x, call, numbers);
            long same = answerOf(told, twin, call, numbers);
            if (i < PROMISED) {
                checks.due(told, answer, same);
            }
        }
    }

    private int below(int bound) {
        state = state * 6364136223846793005L + 1442695040888963407L;
        return (int) Long.remainderUnsigned(state >>> 33, bound);
    }

    private Object[] numbersFor(Method call, boolean isWild) {
        Class<?>[] types = call.getParameterTypes();
        Object[] numbers = new Object[types.length];
        for (int i = 0; i < types.length; i++) {
            long number = isWild && below(2) == 0 ? WILD[below(WILD.length)] : below(13) - 1;
            if (types[i] == int.class) {
                numbers[i] = (int) number;
            } else {
                numbers[i] = isWild ? WIDEST[below(WIDEST.length)] : number;
            }
        }
        return numbers;
    }

    private static long answerOf(String told, PuppetCast x, Method call, Object[] numbers) throws IllegalAccessException {
        try {
            return ((Number) call.invoke(x, numbers)).longValue();
        } catch (InvocationTargetException e) {
            checks.due(told + " threw " + e.getCause(), 1, 0);
            return 0;
        }
    }
}
