import java.lang.reflect.InvocationTargetException;
import java.lang.reflect.Method;
import java.util.ArrayList;
import java.util.HashMap;
import java.util.List;
import java.util.Map;

/**
 * One object of the program, and the calls that it was told, each as a text: so they can be told again to another
 * object, and what a refused call leaves behind can be held against what would be there without it.
 */
final class Tried {
    private static final int NONE = -1;
    private static final int BAD = -32;
    private static final int FAULTY = -500;
    /** What an object answers behind so many calls is free, so no test may look at it. */
    private static final int MOST_CALLS = 512;
    private static final Map<String, Method> METHODS = new HashMap<>();

    static {
        for (Method method : FeatureDesk.class.getDeclaredMethods()) {
            METHODS.put(method.getName(), method);
        }
    }

    private static final class Call {
        final String text;
        final Method method;
        final Object[] values;

        Call(String text) {
            this.text = text;
            int open = text.indexOf('(');
            method = METHODS.get(text.substring(0, open));
            String inside = text.substring(open + 1, text.length() - 1).trim();
            String[] words = inside.isEmpty() ? new String[0] : inside.split(", *");
            if (method == null || words.length != method.getParameterCount()) {
                throw new IllegalArgumentException("no such call: " + text);
            }
            values = new Object[words.length];
            for (int i = 0; i < words.length; i++) {
                boolean isLong = method.getParameterTypes()[i] == long.class;
                values[i] = isLong ? (Object) Long.parseLong(words[i]) : (Object) Integer.parseInt(words[i]);
            }
        }
    }

    private final FeatureDesk desk = new FeatureDesk();
    private final List<Call> told = new ArrayList<>();

    Tried() {
    }

    private static Tried again(List<Call> calls) {
        Tried twin = new Tried();
        for (Call call : calls) {
            twin.tell(call);
        }
        return twin;
    }

    private long tell(Call call) {
        told.add(call);
        if (told.size() > MOST_CALLS) {
            throw new IllegalStateException("a test tells an object too much: " + call.text);
        }
        try {
            return ((Number) call.method.invoke(desk, call.values)).longValue();
        } catch (InvocationTargetException e) {
            throw new IllegalStateException(call.text + " threw", e.getCause());
        } catch (IllegalAccessException e) {
            throw new IllegalStateException(call.text, e);
        }
    }

    long tell(String call) {
        return tell(new Call(call));
    }

    /** Tells the calls; what they answer is not looked at. */
    Tried does(String... calls) {
        for (String call : calls) {
            tell(call);
        }
        return this;
    }

    Tried due(String call, long want) {
        Sentences.answered(call, tell(call), want);
        return this;
    }

    Tried feed(String letters) {
        for (char letter : letters.toCharArray()) {
            tell("feed(" + (int) letter + ")");
        }
        return this;
    }

    /** The rule is read, and whatever was on the tape is behind it no more. */
    Tried rule(int feature, String letters, int want) {
        feed(letters);
        Sentences.answered("rule(" + feature + ") of " + letters, tell("rule(" + feature + ")"), want);
        return due("status(8)", 0);
    }

    String spelling(int feature, int rule) {
        StringBuilder letters = new StringBuilder();
        for (int i = 0; i <= 300; i++) {
            long letter = tell("spelled(" + feature + ", " + rule + ", " + i + ")");
            if (letter < 0) {
                break;
            }
            letters.append((char) letter);
        }
        return letters.toString();
    }

    /** Looked at in another object, so that it costs this one no calls. */
    Tried dueSpelling(int feature, int rule, String want) {
        Sentences.answered("RULE " + rule + " SPELLED", again(told).spelling(feature, rule), want);
        return this;
    }

    /** Looked at in another object, since its calls may be many. */
    Tried dueThere(String call, long want) {
        Sentences.answered(call, again(told).tell(call), want);
        return this;
    }

    /**
     * The call is refused so, and nothing changes but how many such refusals there were. It is told to other objects:
     * this one stays without it.
     */
    Tried refuses(String call, int want) {
        return refuses(call, want, told);
    }

    /** As refuses(), but that THE TAPE is empty then. */
    Tried refusesRule(int feature, String letters, int want) {
        Tried fed = again(told).feed(letters);
        Tried wiped = again(fed.told);
        wiped.tell("wipe()");
        fed.refuses("rule(" + feature + ")", want, wiped.told);
        return this;
    }

    private Tried refuses(String call, int want, List<Call> without) {
        Tried twin = again(told);
        Sentences.answered(call, twin.tell(call), want);
        int number = want <= FAULTY ? BAD : want;
        long[] before = refusals(without);
        long[] behind = refusals(twin.told);
        for (int i = 0; i < before.length; i++) {
            long more = BAD - i == number ? 1 : 0;
            Sentences.answered("REFUSALS " + (BAD - i) + " behind " + call, behind[i], before[i] + more);
        }
        Sentences.answered("what changes by " + call, looks(twin.told), looks(without));
        return this;
    }

    /** The call is not refused and changes nothing. */
    Tried changesNothing(String call) {
        Tried twin = again(told);
        twin.tell(call);
        Sentences.answered("what changes by " + call, looks(twin.told), looks(told));
        long[] before = refusals(told);
        long[] behind = refusals(twin.told);
        for (int i = 0; i < before.length; i++) {
            Sentences.answered("REFUSALS " + (BAD - i) + " behind " + call, behind[i], before[i]);
        }
        return this;
    }

    /** That the two are alike in all that can be looked at. */
    static void dueAlike(String what, Tried a, Tried b) {
        Sentences.answered(what, looksOfDesk(a.told), looksOfDesk(b.told));
    }

    private static long[] refusals(List<Call> calls) {
        Tried twin = again(calls);
        long[] counts = new long[5];
        for (int i = 0; i < counts.length; i++) {
            counts[i] = twin.tell("status(" + (12 + i) + ")");
        }
        return counts;
    }

    /** All that can be looked at, but REFUSALS. */
    private static String looks(List<Call> calls) {
        StringBuilder all = new StringBuilder(looksOfDesk(calls)).append(looksOfShelves(calls));
        Tried taped = again(calls);
        all.append("\ntape ").append(taped.tell("status(8)")).append(' ').append(taped.tell("feature(3)"));
        all.append(' ').append(taped.tell("rule(0)"));
        Tried back = again(calls);
        if (back.tell("back()") == 1) {
            all.append("\nimage ").append(looksOfDesk(back.told));
        }
        return all.toString();
    }

    /** All that an image keeps. */
    private static String looksOfDesk(List<Call> calls) {
        StringBuilder all = new StringBuilder();
        Tried x = again(calls);
        int[] keys = new int[(int) x.tell("status(0)")];
        long features = x.tell("status(1)");
        for (int what : new int[] {0, 1, 2, 3, 4, 5, 6, 7, 9}) {
            all.append(x.tell("status(" + what + ")")).append(' ');
        }
        for (int i = 0; i < keys.length; i++) {
            keys[i] = (int) x.tell("personOf(" + i + ")");
            all.append("\nPERSON ").append(keys[i]).append(' ').append(x.tell("attributes(" + keys[i] + ")"));
        }
        for (int f = 0; f < features; f++) {
            lookAtFeature(calls, f, keys, all);
        }
        // Which STEPS there are shows by what is left of them, and by the PARTS they leave.
        Tried passed = again(calls);
        for (int days : new int[] {0, 1, 1, 1, 1, 1, 1, 1, 1, 1, 1, 9, 99, 999}) {
            all.append(" STEPS ").append(passed.tell("pass(" + days + ")")).append(' ').append(passed.tell("status(4)"));
        }
        for (int f = 0; f < features; f++) {
            lookAtRules(passed.told, f, all);
        }
        return all.toString();
    }

    private static void lookAtFeature(List<Call> calls, int f, int[] keys, StringBuilder all) {
        Tried x = again(calls);
        all.append("\nFEATURE ").append(f);
        for (int what = 0; what <= 9; what++) {
            all.append(' ').append(x.tell("featureOf(" + f + ", " + what + ")"));
        }
        all.append(' ').append(x.tell("needed(" + f + ")"));
        for (int variant = 0; variant <= 3; variant++) {
            all.append(' ').append(x.tell("counted(" + f + ", " + variant + ")"));
        }
        for (int key : keys) {
            all.append(" KEY ").append(key).append(' ').append(x.tell("kept(" + f + ", " + key + ")"));
            for (int what = 0; what <= 3; what++) {
                all.append(' ').append(x.tell("would(" + f + ", " + key + ", " + what + ")"));
            }
        }
        lookAtRules(calls, f, all);
    }

    private static void lookAtRules(List<Call> calls, int f, StringBuilder all) {
        long rules = again(calls).tell("featureOf(" + f + ", 4)");
        for (int rule = 0; rule < rules; rule++) {
            all.append(" RULE ").append(again(calls).spelling(f, rule));
        }
    }

    private static String looksOfShelves(List<Call> calls) {
        StringBuilder all = new StringBuilder();
        for (int s = 0; s < 8; s++) {
            Tried x = again(calls);
            long holds = x.tell("holds(" + s + ")");
            all.append("\nSHELF ").append(holds);
            for (int i = 0; holds >= 0 && holds <= 4 && i < 40; i++) {
                all.append(' ').append(x.tell("element(" + s + ", " + i + ")"));
            }
            // How many elements there are shows by what may be put.
            for (int i = 0; holds >= 0 && holds <= 4 && i <= 40 && x.tell("set(" + s + ", " + i + ", 1)") == 1; i++) {
                all.append('.');
            }
            for (int kind = 0; holds >= 10 && kind <= 8; kind++) {
                all.append(' ').append(x.tell("says(" + s + ", " + kind + ")"));
            }
        }
        return all.toString();
    }
}
