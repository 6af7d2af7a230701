import java.io.IOException;
import java.nio.file.Files;
import java.nio.file.Path;
import java.util.LinkedHashMap;
import java.util.Map;

/**
 * The document, part by part, and which of its words a test has quoted. A test of a sentence begins by quoting it:
 * words that don't stand in the document are a fault, and so are words that no test quotes.
 */
abstract class Sentences {
    static final int NONE = -1;
    static final int BAD = -32;
    static final int OTHER = -33;
    static final int NOTHING = -34;
    static final int STUCK = -35;
    static final int FULL = -36;
    static final int LOW = Integer.MIN_VALUE;
    static final int HIGH = Integer.MAX_VALUE;

    private static final int PROMISES = 49;
    private static final Map<String, String> PARTS = new LinkedHashMap<>();
    private static String part = "";
    private static String sentence = "";
    private static int asked = 0;
    private static int wrong = 0;

    static void read(Path document) throws IOException {
        String all = Files.readString(document).replace("```text", "").replace("```", "").replaceAll("\\s+", " ");
        cut(all, "What it is", "An object is used", "## The public face");
        cut(all, "Terms", "PERSONS, FEATURES PERSONS", "==== 2.");
        cut(all, "2", "NOW is a TIME", "==== 3.");
        cut(all, "3", "WHAT IS ASKED (", "REFUSALS (");
        cut(all, "REFUSALS", "REFUSALS (", "## Promise 1:");
        for (int i = 1; i <= PROMISES; i++) {
            String end = i < PROMISES ? "## Promise " + (i + 1) + ":" : "## Not promised";
            String text = cut(all, "Promise " + i, "## Promise " + i + ":", end);
            // The promise's words stand behind its call.
            PARTS.put("Promise " + i, text.substring(text.indexOf("`: ") + 3));
        }
    }

    private static String cut(String all, String name, String start, String end) {
        int from = all.indexOf(start);
        int to = all.indexOf(end, from);
        if (from < 0 || to < 0) {
            throw new IllegalStateException("the document has no part " + name);
        }
        PARTS.put(name, all.substring(from, to));
        return PARTS.get(name);
    }

    /** What comes now is of this part of the document. */
    static void in(String name) {
        part = name;
        sentence = "";
        if (!PARTS.containsKey(name)) {
            throw new IllegalArgumentException("the document has no part " + name);
        }
    }

    static void promise(int number) {
        in("Promise " + number);
    }

    /** What comes now tests these words of the part. */
    static void sentence(String words) {
        sentence = words;
        String rest = PARTS.get(part);
        int at = rest.indexOf(words);
        if (at < 0) {
            wrong++;
            System.out.println(part + " has no words: " + words);
            return;
        }
        PARTS.put(part, rest.substring(0, at) + " _ " + rest.substring(at + words.length()));
    }

    static void answered(String call, long got, long want) {
        asked++;
        if (got != want) {
            fault(call + " answered " + got + ", due is " + want);
        }
    }

    static void answered(String what, String got, String want) {
        asked++;
        if (!got.equals(want)) {
            fault(what + ": " + got + "\ndue is: " + want);
        }
    }

    private static void fault(String what) {
        wrong++;
        System.out.println(part + ", \"" + sentence + "\": " + what);
    }

    /** Whether all was as due, and no words of the document are left. */
    static boolean end() {
        for (Map.Entry<String, String> entry : PARTS.entrySet()) {
            if (entry.getValue().matches(".*[A-Za-z0-9].*")) {
                wrong++;
                System.out.println("no test quotes of " + entry.getKey() + ": " + entry.getValue());
            }
        }
        System.out.println(asked + " answers looked at, " + wrong + " not as due");
        return wrong == 0;
    }

    /** Persons 1 to n, all with attributes 0. */
    static Tried persons(int n) {
        Tried x = new Tried();
        for (int key = 1; key <= n; key++) {
            x.does("person(" + key + ", 0)");
        }
        return x;
    }

    /** As the document has it, in longs. */
    static int bucketOf(int salt, int key) {
        long low = 0xffffffffL;
        long z = key + 101L * salt & low;
        for (int i = 0; i < 2; i++) {
            z ^= z >> 16;
            z = z * 73244475L & low;
        }
        z ^= z >> 16;
        return (int) ((z >> 1) % 1000);
    }

    /** The first key of that bucket. */
    static int keyIn(int salt, int bucket) {
        for (int key = 0; key <= 999999; key++) {
            if (bucketOf(salt, key) == bucket) {
                return key;
            }
        }
        throw new IllegalStateException("no key has bucket " + bucket + " by salt " + salt);
    }
}
