import java.lang.reflect.InvocationTargetException;
import java.lang.reflect.Method;
import java.lang.reflect.Modifier;
import java.util.ArrayList;
import java.util.Comparator;
import java.util.List;
import java.util.Random;

/** Calls of all kinds with numbers of all kinds, far more than an object need bear: none may throw. */
public final class WildTest {
    private static final long[] ODD = {0, 1, 2, 3, 4, 5, 6, 7, 8, 9, 10, 11, 12, 23, 24, 25, 39, 40, 41, 60, 61, 99, 200, 201, 249, 250,
        251, 333, 334, 512, 999, 1000, 9999, 10000, 999999, 1000000, 1000001, 40000, 65536, -1, -2, -32, -500, Integer.MAX_VALUE,
        Integer.MIN_VALUE, Integer.MAX_VALUE - 1, Integer.MIN_VALUE + 1};
    private static final String LETTERS = "!!((((**abcd<=>#0123456789--&&||))::%%,,";
    private static final int OBJECTS = 40;
    private static final int CALLS = 20000;

    public static void main(String[] args) throws ReflectiveOperationException {
        List<Method> methods = new ArrayList<>();
        for (Method method : FeatureDesk.class.getDeclaredMethods()) {
            if (Modifier.isPublic(method.getModifiers())) {
                methods.add(method);
            }
        }
        methods.sort(Comparator.comparing(Method::getName));
        for (int object = 0; object < OBJECTS; object++) {
            if (!bears(methods, new Random(object))) {
                System.exit(1);
            }
        }
        System.out.println(OBJECTS + " objects bore " + CALLS + " wild calls each");
    }

    private static boolean bears(List<Method> methods, Random random) throws ReflectiveOperationException {
        FeatureDesk x = new FeatureDesk();
        boolean mild = random.nextBoolean();
        for (int call = 0; call < CALLS; call++) {
            Method method = methods.get(random.nextInt(methods.size()));
            Object[] values = new Object[method.getParameterCount()];
            for (int i = 0; i < values.length; i++) {
                long value = value(random, mild);
                values[i] = method.getParameterTypes()[i] == long.class ? (Object) value : (Object) (int) value;
            }
            try {
                method.invoke(x, values);
                feedSome(x, random);
            } catch (InvocationTargetException e) {
                System.out.println(method + " of " + List.of(values) + " threw " + e.getCause());
                return false;
            }
        }
        return true;
    }

    private static long value(Random random, boolean mild) {
        if (mild && random.nextInt(5) != 0) {
            return random.nextInt(4);
        }
        return random.nextInt(6) == 0 ? random.nextLong() : ODD[random.nextInt(ODD.length)];
    }

    private static void feedSome(FeatureDesk x, Random random) {
        if (random.nextInt(8) == 0) {
            x.feed(LETTERS.charAt(random.nextInt(LETTERS.length())));
        }
        if (random.nextInt(60) == 0) {
            x.wipe();
            String[] texts = {"*%9,0,0", "!(a<3|*):1", "#1-3&(b=0&*):1", "*%0,0,0"};
            for (char letter : texts[random.nextInt(texts.length)].toCharArray()) {
                x.feed(letter);
            }
            x.rule(random.nextInt(4));
        }
    }
}
