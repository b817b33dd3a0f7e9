import java.lang.reflect.InvocationTargetException;
import java.lang.reflect.Method;
import java.lang.reflect.Modifier;
import java.util.ArrayList;
import java.util.Arrays;
import java.util.Comparator;
import java.util.List;
import java.util.Random;

/** LANGUAGE.md, rule 7: no call throws or fails to end, for any numbers in any state; the seeds are fixed. */
public final class WildTest {
    private static final Check C = new Check();
    private static final int RUNS = 1000;
    private static final int[] FAR = {Integer.MIN_VALUE, Integer.MIN_VALUE + 1, Integer.MAX_VALUE,
        Integer.MAX_VALUE - 1, -1, -2, 1 << 16, 1 << 30, 10000, 3649, 3650, 400, 192};
    private static final String[] TEXTS = {"rect 3 0 0 wide high", "say 1 no 1 1", "town rest, painter 50%", "no",
        "each i from 0 - 999 * 99 to 999 * 99 [ each j from 0 - 999 * 99 to 999 * 99 [ disc i / 999 i * i j j ] ]",
        "disc 1 999 * 999 0 - 999 * 999 999 * 999 / (i - i)", "rect 3 ((((((1", "each i from 1 to 2 [", "town 101%"};

    private final Random r;
    private final WallHouse x = new WallHouse();

    private WildTest(int seed) {
        r = new Random(seed);
    }

    public static void main(String[] args) throws IllegalAccessException {
        List<Method> calls = new ArrayList<>();
        for (Method m : WallHouse.class.getDeclaredMethods()) {
            if (Modifier.isPublic(m.getModifiers())) {
                calls.add(m);
            }
        }
        calls.sort(Comparator.comparing(Method::getName));
        for (int seed = 0; seed < RUNS && C.wrongSoFar() == 0; seed++) {
            C.part("run " + seed);
            new WildTest(seed).run(calls);
        }
        C.end();
    }

    private void run(List<Method> calls) throws IllegalAccessException {
        for (int i = 0; i < 512 && C.wrongSoFar() == 0; i++) {
            if (r.nextInt(12) == 0) {
                tell(TEXTS[r.nextInt(TEXTS.length)]);
            } else {
                call(calls.get(r.nextInt(calls.size())));
            }
        }
    }

    private void tell(String text) {
        int n = Check.put(x, text);
        switch (r.nextInt(3)) {
            case 0: x.drawing(n); break;
            case 1: x.right(n); break;
            default: x.bar(n);
        }
    }

    private void call(Method m) throws IllegalAccessException {
        Class<?>[] types = m.getParameterTypes();
        Object[] with = new Object[types.length];
        for (int i = 0; i < with.length; i++) {
            with[i] = types[i] == boolean.class ? (Object) r.nextBoolean() : (Object) number();
        }
        try {
            m.invoke(x, with);
        } catch (InvocationTargetException e) {
            C.yes(m.getName() + Arrays.toString(with) + " threw " + e.getCause(), false);
        }
    }

    private int number() {
        switch (r.nextInt(8)) {
            case 0: return FAR[r.nextInt(FAR.length)];
            case 1: return r.nextInt();
            case 2: return r.nextInt(64);
            case 3: return r.nextInt(1024);
            default: return r.nextInt(5);
        }
    }
}
