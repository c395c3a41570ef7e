import java.lang.reflect.InvocationTargetException;
import java.lang.reflect.Method;
import java.util.ArrayList;
import java.util.Arrays;
import java.util.Comparator;
import java.util.List;
import java.util.Random;

/** Any calls with any numbers, in any state: nothing is thrown but what the face names, and like calls answer alike. */
final class AnyCallTest {
    private static final int MOST_CALLS = 512;
    /** 6 JUDGES, 12 PACKETS, 24 DOGS. */
    private static final int MOST_GROUND = 42;
    /** A text of 100 bytes, and a call of five numbers, each of which may be asked of count(). */
    private static final int MOST_AT_ONCE = 11;
    private static final int[] EDGES = {Integer.MIN_VALUE, -1000001, -51, -50, -2, -1, 0, 1, 2, 3, 4, 5, 6, 7, 8, 9, 10, 11,
        12, 17, 18, 19, 20, 23, 24, 39, 40, 50, 51, 119, 120, 199, 200, 600, 601, 998, 999, 1000, 1 << 30,
        Integer.MAX_VALUE - 9, Integer.MAX_VALUE};
    private static final String[] TEXTS = {"part a 9;fault f off n/(n-1)+65536*32768/(0-1);out total/wind<hour;tie a,time;",
        "part a 99;part b 99;fault f off left/nth;best 20;limit 9999;", "a f 0 f f 1;b f;time 99999;", "b f;retired;", "a",
        "((((((((((((((((((((", "part a 1;out ((((((((((", "part a 1;out not not not not not not not not", "\0\u00ff"};

    private final Random random;
    private final Method[] methods;
    private int calls = 0;

    private AnyCallTest(long seed) {
        random = new Random(seed);
        List<Method> open = new ArrayList<>();
        for (Method m : DogTrials.class.getMethods()) {
            if (m.getDeclaringClass() == DogTrials.class) {
                open.add(m);
            }
        }
        open.sort(Comparator.comparing(Method::getName));
        methods = open.toArray(new Method[0]);
    }

    public static void main(String[] args) {
        for (int seed = 0; seed < 400; seed++) {
            List<String> first = new AnyCallTest(seed).play();
            List<String> again = new AnyCallTest(seed).play();
            Check.due("the same calls again, seed " + seed, first.equals(again) ? 1 : 0, 1);
        }
        Check.end();
    }

    private List<String> play() {
        DogTrials x = random.nextBoolean() ? Check.ground(random.nextInt(7), random.nextInt(13), random.nextInt(25))
            : new DogTrials();
        List<String> answers = new ArrayList<>();
        calls = MOST_GROUND;
        while (calls <= MOST_CALLS - MOST_AT_ONCE) {
            if (random.nextInt(8) == 0) {
                String text = TEXTS[random.nextInt(TEXTS.length)];
                calls += (text.length() + 19) / 20;
                Check.feed(x, text);
            }
            answers.add(call(x, methods[random.nextInt(methods.length)]));
        }
        return answers;
    }

    private int number(DogTrials x) {
        switch (random.nextInt(4)) {
            case 0:
                return EDGES[random.nextInt(EDGES.length)];
            case 1:
                return random.nextInt(3);
            case 2:
                calls++;
                return x.count(random.nextInt(11)) - random.nextInt(2);
            default:
                return random.nextInt(12);
        }
    }

    private String call(DogTrials x, Method m) {
        Object[] given = new Object[m.getParameterCount()];
        for (int i = 0; i < given.length; i++) {
            boolean isLong = m.getParameterTypes()[i] == long.class;
            given[i] = isLong ? (Object) random.nextLong() : (Object) number(x);
        }
        calls++;
        String what = m.getName() + Arrays.toString(given);
        try {
            return what + " " + m.invoke(x, given);
        } catch (InvocationTargetException e) {
            boolean isNamed = false;
            for (Class<?> c : m.getExceptionTypes()) {
                isNamed |= c == e.getCause().getClass();
            }
            if (!isNamed) {
                e.getCause().printStackTrace(System.out);
            }
            Check.due(what + " throws what it names", isNamed ? 1 : 0, 1);
            return what + " " + e.getCause().getClass();
        } catch (IllegalAccessException e) {
            Check.due(what + " can be called", 0, 1);
            return what;
        }
    }
}
