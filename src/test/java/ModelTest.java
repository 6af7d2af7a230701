import java.lang.reflect.InvocationTargetException;
import java.lang.reflect.Method;
import java.util.ArrayList;
import java.util.Arrays;
import java.util.List;
import java.util.Random;

/** Runs of drawn calls on the program and on Model, which must answer alike. The draws are the same each time. */
public final class ModelTest {
    /** Each call by its name and what is to be drawn for it; listed as often as it is to come up. */
    private static final String[] CALLS = {
        "row shelf sort length", "row shelf sort length", "set shelf place long", "set shelf place long", "set shelf place key",
        "copy shelf shelf place place length", "copy shelf shelf little little little", "element shelf place", "holds shelf",
        "show shelf feature rule part3", "show shelf feature rule part3", "show shelf feature rule part3", "says shelf kind",
        "says shelf kind", "says shelf kind", "says shelf kind", "feed letter", "wipe", "person key attributes",
        "person key attributes", "person key attributes", "person key attributes", "gone key", "personOf person",
        "attributes key", "bucket salt key", "feature variant", "feature variant", "tell feature what3 variant",
        "tell feature one variant", "tell feature one variant", "rule feature", "drop feature rule", "part feature rule variant part",
        "part feature rule variant part", "part feature rule variant part", "needs feature feature variant",
        "needs feature feature variant", "needs feature feature variant", "free feature", "override feature key variant",
        "override feature key variant", "layer feature layer bucket bucket", "layer feature layer bucket bucket",
        "step time feature rule variant part", "step time feature rule variant part", "step time feature rule variant part",
        "pass days", "ask feature key", "ask feature key", "ask feature key", "ask feature key", "would feature key what4",
        "would feature key what4", "path feature key person what4", "path feature key little what4", "later feature key time",
        "later feature key time", "reach feature variant", "reach feature variant", "counted feature variant", "by feature reason",
        "by feature reason", "so feature rule", "grow feature rule variant little", "grow feature rule variant little",
        "moved feature rule variant part", "moved feature rule variant part", "shakes feature", "shakes feature",
        "overlap feature feature", "overlap feature feature", "needed feature", "needed feature", "kept feature key",
        "kept feature key", "forget feature", "spelled feature rule place", "spelled feature rule place",
        "spelled feature rule place", "featureOf feature what10", "featureOf feature what10", "judge feature shelf little",
        "judge feature shelf little", "days days", "days days", "seed int", "image", "back", "status what17", "status what17"};
    private static final int[] EDGES = {0, 332, 333, 665, 666, 998, 999};
    private static final int[] SOME_KEYS = {0, 1, 2, 3, 4, 5, 6, 7, 8, 9, 11, 17, 42, 99, 100, 127, 128, 200, 255, 256, 905, 1000, 4711,
        32767, 65536, 99999, 100000, 123456, 500000, 777777, 999998, 999999};
    private static final int[] KEYS = withEdges();
    private static final int[] ODD = {-1, -2, Integer.MIN_VALUE, Integer.MAX_VALUE, 1000000, 1000001, 10000, 1000, 334, 256, 201, 61,
        41, 25, 24, 21, 18, 13, 12, 11, 10, 9, 8, 7, 6, 5, 4, 3};
    private static final int MOST_CALLS = 512;

    private final Random random;
    private final FeatureDesk program = new FeatureDesk();
    private final Model model = new Model();
    private final List<String> told = new ArrayList<>();
    /** How often something odd is drawn, one of so many; and how many persons and features the run is about. */
    private final int odds;
    private final int keys;
    private final int first;
    private boolean wrong = false;

    private ModelTest(long run) {
        random = new Random(run);
        odds = 8 + random.nextInt(40);
        keys = 3 + random.nextInt(30);
        first = random.nextInt(KEYS.length - keys);
    }

    public static void main(String[] args) {
        int runs = args.length > 0 ? Integer.parseInt(args[0]) : 8000;
        for (int run = 0; run < runs; run++) {
            ModelTest test = new ModelTest(run);
            test.run();
            if (test.wrong) {
                System.out.println("run " + run + " of " + runs + " is not as the model has it");
                System.exit(1);
            }
        }
        System.out.println(runs + " drawn runs answer as the model does");
    }

    /** Beside some keys, the first ones whose buckets are at the edges of parts, of the first four features. */
    private static int[] withEdges() {
        int[] all = Arrays.copyOf(SOME_KEYS, SOME_KEYS.length + 4 * EDGES.length);
        int at = SOME_KEYS.length;
        for (int salt = 1; salt <= 4; salt++) {
            for (int edge : EDGES) {
                int key = 0;
                while (Model.bucketOf(salt, key) != edge) {
                    key++;
                }
                all[at++] = key;
            }
        }
        return all;
    }

    private void run() {
        warmUp();
        while (told.size() < MOST_CALLS && !wrong) {
            if (random.nextInt(12) == 0) {
                rule(random.nextInt(6) == 0);
            } else {
                draw(CALLS[random.nextInt(CALLS.length)]);
            }
        }
    }

    /** Most runs begin with some persons, features and rules, else they would refuse nearly all. */
    private void warmUp() {
        if (random.nextInt(10) == 0) {
            return;
        }
        for (int i = random.nextInt(random.nextInt(2) == 0 ? 26 : 60); i >= 0; i--) {
            draw("person key attributes");
        }
        for (int i = random.nextInt(13); i >= 0; i--) {
            draw("feature variant");
        }
        for (int i = random.nextInt(8); i >= 0; i--) {
            rule(false);
            draw("tell feature one variant");
        }
    }

    private void draw(String line) {
        String[] words = line.split(" ");
        Object[] values = new Object[words.length - 1];
        for (int i = 0; i < values.length; i++) {
            values[i] = words[0].equals("set") && i == 2 ? (Object) drawLong(words[3]) : (Object) drawInt(words[i + 1]);
        }
        call(words[0], values);
    }

    private void rule(boolean spoilt) {
        String text = cond(random.nextInt(5)) + answer();
        if (random.nextInt(40) == 0) {
            text = "!".repeat(random.nextInt(125)) + "(".repeat(random.nextInt(60)) + text;
        }
        if (spoilt) {
            int at = random.nextInt(text.length());
            String letters = "!(*abcd#<=>0123456789-&|):%,e x";
            String letter = random.nextInt(3) == 0 ? "" : "" + letters.charAt(random.nextInt(letters.length()));
            text = text.substring(0, at) + letter + text.substring(Math.min(text.length(), at + random.nextInt(2)));
        }
        if (told.size() + text.length() > MOST_CALLS - 10) {
            draw("wipe");
            return;
        }
        for (char c : text.toCharArray()) {
            call("feed", (int) c);
        }
        draw("rule feature");
    }

    private String cond(int depth) {
        int kind = depth == 0 ? random.nextInt(3) : random.nextInt(8);
        switch (kind) {
            case 0:
                return random.nextInt(2) == 0 ? "*" : "(*)";
            case 1:
                return "" + "abcd".charAt(random.nextInt(4)) + "<=>".charAt(random.nextInt(3)) + random.nextInt(10);
            case 2:
                int n = KEYS[first + random.nextInt(keys)];
                int m = Math.min(999999, n + random.nextInt(random.nextInt(2) == 0 ? 10 : 500000));
                return random.nextInt(3) == 0 ? String.format("#%06d-%06d", n, m) : "#" + n + "-" + m;
            case 3:
                return "!" + simple(depth - 1);
            case 4:
                return simple(depth - 1) + "&" + simple(depth - 1);
            case 5:
                return cond(depth - 1) + "|" + cond(depth - 1);
            case 6:
                return "(" + cond(depth - 1) + ")&(" + cond(depth - 1) + ")";
            default:
                return "(" + cond(depth - 1) + ")|(" + cond(depth - 1) + ")";
        }
    }

    private String simple(int depth) {
        return random.nextInt(2) == 0 ? cond(0) : "(" + cond(depth) + ")";
    }

    private String answer() {
        if (random.nextInt(3) == 0) {
            return ":" + random.nextInt(random.nextInt(6) == 0 ? 10 : 3);
        }
        int has = random.nextInt(4);
        StringBuilder text = new StringBuilder();
        for (int i = 0; i < 3; i++) {
            int part = random.nextInt(30) == 0 ? random.nextInt(1100) : random.nextInt(5) == 0 ? 333 : random.nextInt(334);
            text.append(i == 0 ? '%' : ',').append(i < has ? part : 0);
        }
        return text.toString();
    }

    private int drawInt(String what) {
        if (random.nextInt(odds) == 0) {
            return random.nextInt(3) == 0 ? random.nextInt() : ODD[random.nextInt(ODD.length)];
        }
        int features = Math.max(1, model.now.features.size());
        switch (what) {
            case "shelf":
                return random.nextInt(random.nextInt(3) == 0 ? 8 : 3);
            case "sort":
                return random.nextInt(3) == 0 ? 2 : random.nextInt(5);
            case "length":
                return random.nextInt(41);
            case "place":
                return random.nextInt(random.nextInt(2) == 0 ? 6 : 41);
            case "little":
                return random.nextInt(random.nextInt(2) == 0 ? 4 : 12);
            case "feature":
                return random.nextInt(features);
            case "rule":
                return random.nextInt(random.nextInt(3) == 0 ? 6 : 2);
            case "variant":
                return random.nextInt(4);
            case "part":
                return random.nextInt(5) == 0 ? 333 : random.nextInt(334);
            case "kind":
                return random.nextInt(9);
            case "letter":
                return 33 + random.nextInt(93);
            case "key":
                return KEYS[first + random.nextInt(keys)];
            case "attributes":
                return random.nextInt(10000);
            case "person":
                return random.nextInt(24);
            case "salt":
                return random.nextInt(201);
            case "layer":
                return random.nextInt(5) - 1;
            case "bucket":
                return random.nextInt(1000);
            case "time":
                return model.now.now + random.nextInt(random.nextInt(4) == 0 ? 10005 : 30);
            case "days":
                return 1 + random.nextInt(9);
            case "reason":
                return 1 + random.nextInt(7);
            case "one":
                return random.nextInt(2);
            case "int":
                return random.nextInt();
            default:
                return random.nextInt(Integer.parseInt(what.replaceAll("[a-z]*", "")));
        }
    }

    private long drawLong(String what) {
        int kind = random.nextInt(8);
        if (kind == 0) {
            return random.nextLong();
        }
        return kind == 1 ? (1L << 32) + drawInt("key") : what.equals("key") ? drawInt("key") : random.nextInt(5);
    }

    private void call(String name, Object... values) {
        if (told.size() >= MOST_CALLS || wrong) {
            return;
        }
        StringBuilder line = new StringBuilder(name).append('(');
        for (int i = 0; i < values.length; i++) {
            line.append(i == 0 ? "" : ", ").append(values[i]);
        }
        line.append(')');
        long got = answerOf(program, name, values, line.toString());
        long want = answerOf(model, name, values, line.toString());
        told.add(line + " -> " + want);
        if (got != want) {
            wrong = true;
            for (String before : told) {
                System.out.println(before);
            }
            System.out.println(line + " answered " + got + ", the model " + want);
        }
    }

    private long answerOf(Object object, String name, Object[] values, String line) {
        Class<?>[] types = new Class<?>[values.length];
        for (int i = 0; i < values.length; i++) {
            types[i] = values[i] instanceof Long ? long.class : int.class;
        }
        try {
            Method method = object.getClass().getMethod(name, types);
            return ((Number) method.invoke(object, values)).longValue();
        } catch (InvocationTargetException e) {
            for (String before : told) {
                System.out.println(before);
            }
            throw new IllegalStateException(line, e.getCause());
        } catch (ReflectiveOperationException e) {
            throw new IllegalStateException(line, e);
        }
    }
}
