import java.lang.reflect.InvocationTargetException;
import java.lang.reflect.Method;
import java.lang.reflect.Modifier;
import java.util.Arrays;
import java.util.Comparator;
import java.util.Random;

/**
 * Long runs of calls with arguments good and bad: nothing is thrown but what a call's own head names,
 * a call that throws changes no count, and the same calls give the same answers.
 */
public final class AnyCallsTest {
    private static final int[] ODD = {-1, -2, 6, 12, 20, 24, 100, 400, 817, 10_000, 1_000_000,
        Integer.MAX_VALUE, Integer.MIN_VALUE};
    private static final String[] TEXTS = {
        "raise 2 if height > 1 and not depth > 2;reply 1;post 0;silence consent;appoint 0;",
        "raise 0 if (depth>1 or close<2) and height<3;rest 0 6;reply 0;fade 20;season 0;near 3;",
        "cut 1;dig 1;rest 1 2 3 4 5 6;hours 0-24;appeal 2;post 3;", "rest 0 1 2 3 4 5 6;", "raise 5 if ((((",
        "near 400;season 400;fade 100;", "not", ""
    };

    public static void main(String[] args) {
        Method[] face = face();
        for (int seed = 0; seed < 3_000; seed++) {
            long first = run(face, seed);
            if (seed % 10 == 0) {
                Check.due("run " + seed + " again", run(face, seed), first);
            }
        }
        Check.end();
    }

    private static Method[] face() {
        return Arrays.stream(PartyWalls.class.getDeclaredMethods())
                .filter(method -> Modifier.isPublic(method.getModifiers()))
                .sorted(Comparator.comparing(Method::getName))
                .toArray(Method[]::new);
    }

    private static long run(Method[] face, int seed) {
        Random random = new Random(seed);
        PartyWalls x = new PartyWalls();
        long sum = 0;
        boolean tame = seed % 3 != 0;
        for (int i = 0; i < 12 && tame; i++) {
            sum += i < 4 ? x.owner() : i < 6 ? x.wall(i - 4, i - 3) : i < 9 ? x.surveyor(i == 7 ? 4 : 0) : x.gauge();
        }
        for (int call = 0; call < 480; call++) {
            if (random.nextInt(40) == 0) {
                sum = 31 * sum + Check.rule(x, TEXTS[random.nextInt(TEXTS.length)]);
                continue;
            }
            Method method = face[random.nextInt(face.length)];
            sum = 31 * sum + answer(x, method, random, tame, seed);
        }
        return sum;
    }

    private static long answer(PartyWalls x, Method method, Random random, boolean tame, int seed) {
        Class<?>[] types = method.getParameterTypes();
        Object[] arguments = new Object[types.length];
        for (int i = 0; i < types.length; i++) {
            if (types[i] == boolean.class) {
                arguments[i] = random.nextBoolean();
            } else {
                arguments[i] = number(random, tame);
            }
        }
        long before = counts(x);
        try {
            Object answer = method.invoke(x, arguments);
            return answer instanceof Boolean ? ((Boolean) answer ? 1 : 0) : ((Number) answer).longValue();
        } catch (InvocationTargetException e) {
            Class<?> thrown = e.getCause().getClass();
            String call = "run " + seed + ", " + method.getName() + Arrays.toString(arguments);
            boolean named = Arrays.asList(method.getExceptionTypes()).contains(thrown);
            Check.due(call + " throws " + thrown + ", which it names", named, true);
            Check.due(call + " throws by its own code", Check.isThrownByCode(e.getCause()), true);
            Check.due(call + " throws " + thrown + " and changes nothing", counts(x), before);
            return thrown.getName().length();
        } catch (IllegalAccessException e) {
            throw new IllegalStateException(e);
        }
    }

    private static int number(Random random, boolean tame) {
        int kind = random.nextInt(tame ? 40 : 8);
        if (kind == 0) {
            return random.nextInt();
        }
        if (kind == 1) {
            return ODD[random.nextInt(ODD.length)];
        }
        return kind < 4 ? random.nextInt(30) : random.nextInt(3);
    }

    private static long counts(PartyWalls x) {
        long sum = x.fault();
        for (int what = 0; what < 12; what++) {
            sum = 1_000_003 * sum + x.count(what);
        }
        return sum;
    }
}
