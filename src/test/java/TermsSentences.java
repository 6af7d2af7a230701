/** Tests of the sentences of 'What it is' and 'Terms', each with the edges that it names. */
final class TermsSentences extends Sentences {
    private static final String OPERANDS = "!(*abcd#";
    private static final String SIGNS = "<=>";
    private static final String DIGITS = "0123456789";

    static void test() {
        in("What it is");
        calls();
        in("Terms");
        keys();
        attributes();
        mostPersons();
        buckets();
        mostFeatures();
        variants();
        killedAndSticky();
        fallback();
        mostRules();
        mostNeeds();
        mostOverrides();
        layers();
        salts();
        ranges();
        rings();
        answers();
        kinds();
        any();
        tests();
        keysFromTo();
        tape();
        afterTheCondition();
        eithers();
        boths();
        simples();
        faults();
        faultyNumbers();
        tooEarly();
        spelled();
    }

    private static void calls() {
        sentence("An object is used for at most 512 calls after it has been made; what later calls answer is free.");
        Tried x = new Tried();
        for (int call = 1; call <= 511; call++) {
            x.due("back()", STUCK);
        }
        x.due("status(15)", 511);
        Tried y = new Tried();
        for (int call = 1; call <= 511; call++) {
            y.due("pass(999)", 0);
        }
        y.due("status(5)", 510489);
        Tried z = new Tried().does("feature(1)", "person(1, 0)");
        for (int call = 3; call <= 511; call++) {
            z.due("days(60)", 0);
        }
        z.due("status(7)", 60 * 509);
    }

    private static void keys() {
        sentence("PERSONS, FEATURES PERSONS: each has a KEY (0 to 999999; no two the same),");
        Tried x = new Tried();
        x.refuses("person(-1, 0)", BAD).refuses("person(1000000, 0)", BAD);
        x.refuses("person(" + LOW + ", 0)", BAD).refuses("person(" + HIGH + ", 0)", BAD);
        x.due("person(0, 1)", 1).due("person(999999, 2)", 2);
        x.due("personOf(0)", 0).due("personOf(1)", 999999);
        x.due("person(0, 3)", 2).due("person(999999, 4)", 2);
        x.due("attributes(0)", 3).due("attributes(999999)", 4);
    }

    private static void attributes() {
        sentence("and ATTRIBUTES a, b, c, d, each 0 to 9, told as one number of four digits (abcd);");
        Tried x = new Tried().does("feature(1)");
        x.refuses("person(1, -1)", BAD).refuses("person(1, 10000)", BAD);
        x.refuses("person(1, " + LOW + ")", BAD).refuses("person(1, " + HIGH + ")", BAD);
        x.does("person(0, 0)", "person(1, 9)", "person(2, 90)", "person(3, 900)", "person(4, 9000)", "person(5, 9999)");
        x.refuses("person(5, 10000)", BAD).refuses("person(0, -1)", BAD);
        x.due("attributes(0)", 0).due("attributes(5)", 9999);
        for (int i = 0; i < 4; i++) {
            char letter = (char) ('a' + i);
            x.rule(0, letter + "=9:1", 0).due("so(0, 0)", 1 << 4 - i | 1 << 5).does("drop(0, 0)");
            x.rule(0, letter + "=0:1", 0).due("so(0, 0)", 31 & ~(1 << 4 - i)).does("drop(0, 0)");
        }
    }

    private static void mostPersons() {
        sentence("24 at most, in the order in which they came.");
        Tried x = new Tried();
        for (int i = 0; i < 24; i++) {
            x.due("person(" + (100 - i) + ", " + i + ")", i + 1);
        }
        x.refuses("person(7, 0)", FULL);
        x.due("person(77, 5)", 24);
        for (int i = 0; i < 24; i++) {
            x.due("personOf(" + i + ")", 100 - i);
        }
        x.refuses("personOf(24)", BAD);
        x.due("gone(100)", 23).due("personOf(0)", 99).due("personOf(22)", 77);
        x.due("person(100, 0)", 24).due("personOf(23)", 100);
        x.refuses("person(7, 0)", FULL);
    }

    private static void buckets() {
        sentence("BUCKET of a KEY by a SALT: z is KEY and 101 times SALT; then twice: z becomes z xor (z >>> 16), "
            + "then z times 73244475 (ints, wrapping); then z xor (z >>> 16); BUCKET: (z >>> 1) modulo 1000.");
        for (int salt = 0; salt <= 200; salt += 40) {
            Tried x = new Tried();
            for (int key = 0; key <= 80; key++) {
                x.due("bucket(" + salt + ", " + key + ")", bucketOf(salt, key));
                x.due("bucket(" + salt + ", " + (999999 - 1013 * key) + ")", bucketOf(salt, 999999 - 1013 * key));
            }
        }
        Tried x = new Tried();
        x.due("bucket(1, 42)", 821).due("bucket(0, 0)", 0).due("bucket(200, 999999)", 181);
        x.due("bucket(1, " + keyIn(1, 0) + ")", 0).due("bucket(1, " + keyIn(1, 999) + ")", 999);
        // KEYS and SALTS of one sum have one BUCKET.
        x.due("bucket(0, 20200)", 822).due("bucket(200, 0)", 822);
    }

    private static void mostFeatures() {
        sentence("FEATURES have numbers, 0 on, 12 at most,");
        Tried x = persons(1);
        for (int i = 0; i < 12; i++) {
            x.refuses("featureOf(" + i + ", 0)", BAD);
            x.due("feature(" + (1 + i % 3) + ")", i);
        }
        for (int i = 0; i < 12; i++) {
            x.due("featureOf(" + i + ", 0)", 1 + i % 3);
        }
        x.refuses("feature(1)", FULL).refuses("featureOf(12, 0)", BAD).refuses("featureOf(-1, 0)", BAD);
    }

    private static void variants() {
        sentence("each with VARIANTS 0 to 1, 2 or 3 (0 is OFF),");
        Tried x = persons(1);
        x.refuses("feature(0)", BAD).refuses("feature(4)", BAD).refuses("feature(-1)", BAD);
        for (int top = 1; top <= 3; top++) {
            int f = top - 1;
            x.due("feature(" + top + ")", f);
            for (int variant = 0; variant <= top; variant++) {
                x.does("tell(" + f + ", 2, " + variant + ")").due("would(" + f + ", 1, 0)", variant);
                x.due("overlap(" + f + ", " + f + ")", variant == 0 ? 0 : 1);
            }
            x.refuses("tell(" + f + ", 2, " + (top + 1) + ")", BAD).refuses("counted(" + f + ", " + (top + 1) + ")", BAD);
        }
    }

    private static void killedAndSticky() {
        sentence("KILLED or not, STICKY or not (neither at first),");
        Tried x = persons(1).does("feature(1)", "feature(1)");
        x.due("featureOf(0, 1)", 0).due("featureOf(0, 2)", 0);
        x.due("tell(0, 0, 1)", 0).due("featureOf(0, 1)", 1).due("featureOf(0, 2)", 0).due("featureOf(1, 1)", 0);
        x.due("tell(0, 1, 1)", 0).due("featureOf(0, 2)", 1).due("featureOf(1, 2)", 0);
        x.due("tell(0, 0, 0)", 1).due("featureOf(0, 1)", 0).due("featureOf(0, 2)", 1);
    }

    private static void fallback() {
        sentence("a FALLBACK (a VARIANT; 0 at first),");
        Tried x = persons(1).does("feature(2)", "feature(2)");
        x.due("featureOf(0, 3)", 0).due("would(0, 1, 0)", 0);
        x.refuses("tell(0, 2, -1)", BAD).refuses("tell(0, 2, 3)", BAD);
        x.due("tell(0, 2, 2)", 0).due("featureOf(0, 3)", 2).due("featureOf(1, 3)", 0).due("tell(0, 2, 0)", 2);
    }

    private static void mostRules() {
        sentence("RULES in an order (6 at most, none at first),");
        Tried x = persons(7).does("feature(1)", "feature(1)");
        x.due("featureOf(0, 4)", 0).refuses("drop(0, 0)", BAD);
        for (int i = 0; i < 6; i++) {
            x.rule(0, "#1-" + (i + 1) + ":1", i).due("featureOf(0, 4)", i + 1);
        }
        x.refusesRule(0, "*:1", FULL);
        x.due("status(2)", 6).due("featureOf(1, 4)", 0);
        for (int i = 0; i < 6; i++) {
            x.due("would(0, " + (i + 1) + ", 2)", i);
        }
        x.due("would(0, 7, 2)", NONE).refuses("so(0, 6)", BAD);
    }

    private static void mostNeeds() {
        sentence("NEEDS in an order (3 at most, none at first; a FEATURE and a VARIANT of it that it must have),");
        Tried x = persons(1).does("feature(1)", "feature(1)", "feature(2)", "feature(1)", "feature(1)");
        x.due("featureOf(0, 5)", 0).due("needed(0)", 0).due("would(0, 1, 1)", 7);
        x.refuses("needs(0, 2, 3)", BAD).refuses("needs(0, 1, 2)", BAD).refuses("needs(0, 1, -1)", BAD);
        x.due("needs(0, 1, 0)", 1).due("needs(0, 2, 2)", 2).due("needs(0, 3, 1)", 3);
        x.refuses("needs(0, 4, 0)", FULL);
        x.due("would(0, 1, 1)", 3).due("would(0, 1, 2)", 2);
        x.does("tell(2, 2, 2)").due("would(0, 1, 2)", 3);
        x.does("tell(3, 2, 1)").due("would(0, 1, 1)", 7);
        x.does("tell(1, 2, 1)").due("would(0, 1, 2)", 1);
    }

    private static void mostOverrides() {
        sentence("OVERRIDES (8 at most; a KEY and a VARIANT),");
        Tried x = persons(10).does("feature(2)", "feature(2)");
        x.due("featureOf(0, 6)", 0);
        for (int key = 1; key <= 8; key++) {
            x.due("override(0, " + key + ", " + key % 3 + ")", NONE).due("featureOf(0, 6)", key);
        }
        x.refuses("override(0, 9, 0)", FULL).refuses("override(0, 10, 2)", FULL);
        for (int key = 1; key <= 8; key++) {
            x.due("would(0, " + key + ", 0)", key % 3).due("would(0, " + key + ", 1)", 1);
        }
        x.due("featureOf(1, 6)", 0).due("override(1, 9, 1)", NONE);
        x.due("override(0, 8, 1)", 2).due("featureOf(0, 6)", 8);
        x.due("override(0, 1, -1)", 1).due("override(0, 9, 0)", NONE).refuses("override(0, 10, 2)", FULL);
    }

    private static void layers() {
        sentence("perhaps a LAYER (0 to 3) with a RANGE of BUCKETS (from one to another one).");
        Tried x = new Tried().does("feature(1)");
        x.due("featureOf(0, 7)", NONE).due("featureOf(0, 8)", 0);
        x.refuses("layer(0, 4, 0, 1)", BAD).refuses("layer(0, -2, 0, 1)", BAD);
        x.refuses("layer(0, 0, -1, 1)", BAD).refuses("layer(0, 0, 0, 1000)", BAD).refuses("layer(0, 0, 6, 5)", BAD);
        int[][] ranges = {{0, 0, 0}, {1, 999, 999}, {2, 0, 999}, {3, 5, 5}, {3, 500, 501}};
        for (int[] r : ranges) {
            x.due("layer(0, " + r[0] + ", " + r[1] + ", " + r[2] + ")", 1);
            x.due("featureOf(0, 7)", r[0]).due("featureOf(0, 8)", r[2] - r[1] + 1);
        }
        int[] edges = {0, 1, 99, 100, 101, 199, 200, 201, 998, 999};
        for (int edge : edges) {
            x.does("person(" + keyIn(102, edge) + ", 0)");
        }
        int[][] ins = {{100, 200}, {0, 0}, {999, 999}, {0, 100}, {200, 999}, {0, 999}, {101, 199}};
        for (int[] in : ins) {
            int out = 0;
            for (int i = 0; i < edges.length; i++) {
                out |= edges[i] < in[0] || edges[i] > in[1] ? 1 << i : 0;
            }
            x.due("layer(0, 2, " + in[0] + ", " + in[1] + ")", 1).due("by(0, 4)", out);
        }
    }

    private static void salts() {
        sentence("The SALT of a FEATURE: its number and 1; of a LAYER: its number and 100.");
        Tried x = new Tried();
        for (int f = 0; f < 12; f++) {
            x.does("feature(1)", "person(" + keyIn(f + 1, 0) + ", 0)").rule(f, "*%1,0,0", 0);
        }
        for (int f = 0; f < 12; f++) {
            for (int g = 0; g < 12; g++) {
                int key = keyIn(g + 1, 0);
                x.due("would(" + f + ", " + key + ", 0)", bucketOf(f + 1, key) == 0 ? 1 : 0);
            }
        }
        Tried y = new Tried();
        for (int layer = 0; layer <= 3; layer++) {
            y.does("feature(1)", "layer(" + layer + ", " + layer + ", 7, 7)", "person(" + keyIn(100 + layer, 7) + ", 0)");
        }
        for (int layer = 0; layer <= 3; layer++) {
            for (int other = 0; other <= 3; other++) {
                int key = keyIn(100 + other, 7);
                y.due("would(" + layer + ", " + key + ", 1)", bucketOf(100 + layer, key) == 7 ? 7 : 4);
            }
        }
    }

    private static void ranges() {
        sentence("RANGES of FEATURES in one LAYER have no BUCKET in common.");
        Tried x = new Tried().does("feature(1)", "feature(1)", "feature(1)", "layer(0, 1, 100, 200)");
        x.refuses("layer(1, 1, 200, 300)", STUCK).refuses("layer(1, 1, 0, 100)", STUCK).refuses("layer(1, 1, 150, 160)", STUCK);
        x.refuses("layer(1, 1, 100, 200)", STUCK).refuses("layer(1, 1, 0, 999)", STUCK).refuses("layer(1, 1, 100, 100)", STUCK);
        x.due("layer(1, 2, 100, 200)", 1).due("layer(1, 1, 201, 300)", 1).due("layer(2, 1, 0, 99)", 1);
        x.refuses("layer(0, 1, 99, 200)", STUCK).refuses("layer(0, 1, 100, 201)", STUCK);
        x.due("layer(0, 1, 100, 200)", 1).due("layer(0, 1, 150, 150)", 1);
        x.due("layer(1, 1, 151, 999)", 1).due("layer(2, -1, 0, 0)", 1).due("layer(0, 1, 0, 150)", 1);
    }

    private static void rings() {
        sentence("No FEATURE needs itself, not by others either.");
        Tried x = new Tried();
        for (int f = 0; f < 12; f++) {
            x.does("feature(1)");
        }
        x.refuses("needs(0, 0, 0)", STUCK).refuses("needs(11, 11, 1)", STUCK);
        for (int f = 0; f < 11; f++) {
            x.due("needs(" + f + ", " + (f + 1) + ", 1)", 1);
            for (int g = 0; g <= f; g++) {
                x.due("needs(" + (f + 1) + ", " + g + ", 0)", STUCK);
            }
        }
        x.refuses("needs(11, 0, 1)", STUCK);
        x.due("needs(0, 11, 1)", 2).due("needed(0)", 0xffe);
        x.due("free(0)", 2).due("free(5)", 1).refuses("needs(11, 6, 0)", STUCK);
        x.due("needs(11, 5, 0)", 1).refuses("needs(5, 6, 0)", STUCK).refuses("needs(5, 11, 0)", STUCK);
        x.due("needs(5, 0, 0)", 1);
    }

    private static void answers() {
        sentence("RULES: a CONDITION, and an ANSWER: FIXED (a VARIANT), or SHARED: PARTS of VARIANTS 1, 2, 3 (0 to 333 each): "
            + "VARIANT v for BUCKETS (by the FEATURE's SALT) from 333 times (v less 1) on, as many as its PART; others: 0.");
        int[] edges = {0, 1, 2, 331, 332, 333, 334, 335, 664, 665, 666, 667, 668, 997, 998, 999};
        Tried x = new Tried().does("feature(3)").rule(0, "*%0,0,0", 0);
        for (int edge : edges) {
            x.does("person(" + keyIn(1, edge) + ", 0)");
        }
        for (int variant = 1; variant <= 3; variant++) {
            int first = 333 * (variant - 1);
            for (int part : new int[] {0, 1, 2, 332, 333}) {
                int reached = 0;
                for (int edge : edges) {
                    reached += edge >= first && edge < first + part ? 1 : 0;
                }
                x.does("part(0, 0, " + variant + ", " + part + ")").due("reach(0, " + variant + ")", reached);
                for (int edge : edges) {
                    if (edge >= first && edge < first + 333) {
                        x.due("would(0, " + keyIn(1, edge) + ", 0)", edge < first + part ? variant : 0);
                    }
                }
            }
            x.refuses("part(0, 0, " + variant + ", 334)", BAD).refuses("part(0, 0, " + variant + ", -1)", BAD);
        }
        x.due("reach(0, 0)", 1).due("would(0, " + keyIn(1, 999) + ", 0)", 0).due("by(0, 6)", 0xffff);
        for (int variant = 0; variant <= 3; variant++) {
            x.does("drop(0, 0)").rule(0, "*:" + variant, 0).due("reach(0, " + variant + ")", 16);
        }
    }

    private static void kinds() {
        sentence("CONDITIONS are of KINDS: 0 CONDITION; 1 PLAIN, 2 PAIR, 3 NOT, each under CONDITION; 4 ANY, 5 TEST, 6 KEYS, "
            + "each under PLAIN; 7 BOTH, 8 EITHER, each under PAIR (none is of KIND 0, 1, 2 itself).");
        String[] texts = {"!*", "*", "a<1", "#1-2", "*&*", "*|*"};
        String[] fits = {"03", "014", "015", "016", "027", "028"};
        for (int i = 0; i < texts.length; i++) {
            Tried x = persons(1).does("feature(1)").rule(0, texts[i] + ":1", 0).does("show(0, 0, 0, 0)");
            x.due("holds(0)", 13 + i);
            for (int kind = 0; kind <= 8; kind++) {
                String call = "says(0, " + kind + ")";
                if (fits[i].indexOf('0' + kind) < 0) {
                    x.refuses(call, OTHER);
                } else {
                    x.changesNothing(call);
                    answered(call + " of " + texts[i] + " is refused", x.tell(call) < 0 ? 1 : 0, 0);
                }
            }
        }
    }

    private static void any() {
        sentence("ANY is so for all.");
        Tried x = persons(23).does("person(999999, 9999)", "feature(1)").rule(0, "*:1", 0);
        x.due("so(0, 0)", 0xffffff).due("reach(0, 1)", 24);
        Tried none = new Tried().does("feature(1)").rule(0, "*:1", 0).due("so(0, 0)", 0);
        none.does("person(0, 0)").due("so(0, 0)", 1);
    }

    private static void tests() {
        sentence("TEST: an ATTRIBUTE is less than, the same as, more than a digit.");
        int[] weights = {1000, 100, 10, 1};
        for (int attribute = 0; attribute < 4; attribute++) {
            for (char sign : SIGNS.toCharArray()) {
                Tried x = new Tried().does("feature(1)");
                for (int value = 0; value <= 9; value++) {
                    // The other attributes are so that a wrong one would tell.
                    int others = (9 - value) * (1111 - weights[attribute]);
                    x.does("person(" + value + ", " + (others + value * weights[attribute]) + ")");
                }
                for (int digit = 0; digit <= 9; digit++) {
                    int bits = 0;
                    for (int value = 0; value <= 9; value++) {
                        boolean so = sign == '<' ? value < digit : sign == '=' ? value == digit : value > digit;
                        bits |= so ? 1 << value : 0;
                    }
                    x.rule(0, "" + (char) ('a' + attribute) + sign + digit + ":1", 0).due("so(0, 0)", bits).does("drop(0, 0)");
                }
            }
        }
    }

    private static void keysFromTo() {
        sentence("KEYS: the KEY is from one to another number.");
        int[] keys = {0, 1, 9, 10, 11, 19, 20, 21, 999998, 999999};
        Tried x = new Tried().does("feature(1)");
        for (int key : keys) {
            x.does("person(" + key + ", 0)");
        }
        int[][] ranges = {{10, 20}, {0, 0}, {1, 1}, {0, 999999}, {999999, 999999}, {0, 999998}, {10, 10}, {12, 18}, {21, 999999}};
        for (int[] r : ranges) {
            int bits = 0;
            for (int i = 0; i < keys.length; i++) {
                bits |= keys[i] >= r[0] && keys[i] <= r[1] ? 1 << i : 0;
            }
            x.rule(0, "#" + r[0] + "-" + r[1] + ":1", 0).due("so(0, 0)", bits).does("drop(0, 0)");
        }
    }

    private static void tape() {
        sentence("A RULE is read from THE TAPE (bytes, 250 at most; no blanks):");
        Tried x = persons(1).does("feature(1)").feed("!".repeat(247) + "*:1").due("status(8)", 250);
        x.refuses("feed(42)", FULL).due("rule(0)", 0).due("so(0, 0)", 0).due("spelled(0, 0, 249)", '1');
        x.due("spelled(0, 0, 250)", NONE);
        Tried y = persons(1).does("feature(1)").rule(0, "(".repeat(123) + "!*" + ")".repeat(123) + "%1", -750);
        y.rule(0, "(".repeat(122) + "!*" + ")".repeat(122) + ":1", 0).due("so(0, 0)", 0).dueSpelling(0, 0, "!*:1");
        Tried z = persons(1).does("feature(1)").rule(0, "*" + "&*".repeat(121) + "%1,0,0", 0);
        z.does("show(0, 0, 0, 0)").due("holds(0)", 17).due("so(0, 0)", 1);
        z.due("spelled(0, 0, 248)", '0').due("spelled(0, 0, 249)", NONE);
        String text = "!(a<5)|*%1,2,0";
        for (int place = 0; place <= text.length(); place++) {
            String blank = text.substring(0, place) + " " + text.substring(place);
            new Tried().does("feature(2)").refusesRule(0, blank, -500 - place);
        }
        new Tried().does("feature(2)").rule(0, text, 0).refusesRule(0, "*:1\n", -503).refusesRule(0, "\t*:1", -500);
    }

    private static void afterTheCondition() {
        sentence("COND, then : and a VARIANT (1 digit), or % and three PARTS with , between.");
        for (int top = 1; top <= 3; top++) {
            Tried x = new Tried().does("feature(" + top + ")");
            for (int digit = 0; digit <= 9; digit++) {
                if (digit <= top) {
                    x.rule(0, "*:" + digit, digit);
                } else {
                    x.refusesRule(0, "*:" + digit, -502);
                }
            }
            x.refusesRule(0, "*:00", -503).refusesRule(0, "*:", -502).refusesRule(0, "*:1,0", -503);
        }
        Tried x = new Tried().does("feature(3)").rule(0, "*%1,2,3", 0).dueSpelling(0, 0, "*%1,2,3");
        x.due("part(0, 0, 1, 0)", 1).due("part(0, 0, 2, 0)", 2).due("part(0, 0, 3, 0)", 3);
        x.refusesRule(0, "*%1", -503).refusesRule(0, "*%1,2", -505).refusesRule(0, "*%1,2,3,4", -507);
        x.refusesRule(0, "*%1:2:3", -503).refusesRule(0, "*%,2,3", -502).refusesRule(0, "*%1,,3", -504);
        x.refusesRule(0, "*%1,2,", -506).refusesRule(0, "*1", -501).refusesRule(0, "*,1", -501).refusesRule(0, "*%:1", -502);
    }

    /** The KIND of a part of a rule's condition, shown in a shelf. */
    private static void dueParts(String condition, int first, int second) {
        Tried x = new Tried().does("feature(1)").rule(0, condition + ":1", 0);
        x.does("show(0, 0, 0, 1)").due("holds(0)", first).does("show(1, 0, 0, 2)").due("holds(1)", second);
    }

    /** For whom of the persons 1 to 4 the condition is so. */
    private static void dueSo(String condition, int bits) {
        persons(4).does("feature(1)").rule(0, condition + ":1", 0).due("so(0, 0)", bits);
    }

    private static void eithers() {
        sentence("COND: one or more BOTHS with | between (EITHER, from the left).");
        dueParts("a<1|*", 15, 14);
        dueParts("*|a<1|#1-2", 18, 16);
        dueParts("*|(a<1|#1-2)", 14, 18);
        dueParts("*|*&*", 14, 17);
        dueParts("*&*|*", 17, 14);
        dueParts("*&*|!*|*|#1-2&*", 18, 17);
        dueSo("#1-2|#2-3", 7);
        dueSo("#1-1|#3-3|#4-4", 13);
        dueSo("!*|!*", 0);
        dueSo("!*|*", 15);
        dueSo("#1-2|#2-3&#3-4", 7);
        Tried x = new Tried().does("feature(1)").rule(0, "*|a<1|#1-2|!*:1", 0).dueSpelling(0, 0, "*|a<1|#1-2|!*:1");
        x.refusesRule(0, "|*:1", -500).refusesRule(0, "*|:1", -502).refusesRule(0, "*||*:1", -502).refusesRule(0, ":1", -500);
    }

    private static void boths() {
        sentence("BOTHS: one or more SIMPLE with & between (BOTH, from the left).");
        dueParts("a<1&*", 15, 14);
        dueParts("*&a<1&#1-2", 17, 16);
        dueParts("*&(a<1&#1-2)", 14, 17);
        dueParts("(*|*)&*", 18, 14);
        dueParts("!*&*", 13, 14);
        dueSo("#1-3&#2-4", 6);
        dueSo("#1-2&#3-4", 0);
        dueSo("#1-4&#2-4&#1-3", 6);
        dueSo("*&!*", 0);
        dueSo("(#1-2|#2-3)&#3-4", 4);
        Tried x = new Tried().does("feature(1)").rule(0, "*&a<1&#1-2&!*:1", 0).dueSpelling(0, 0, "*&a<1&#1-2&!*:1");
        x.refusesRule(0, "&*:1", -500).refusesRule(0, "*&:1", -502).refusesRule(0, "*&&*:1", -502).refusesRule(0, "*&|*:1", -502);
    }

    private static void simples() {
        sentence("SIMPLE: ! SIMPLE (NOT); ( COND ); * (ANY); a .. d, then <, = or >, then a digit (TEST); # N - M (KEYS; "
            + "N and M 0 to 999999, M not below N, of 1 to 6 digits).");
        String[] fine = {"!*", "!!a<0", "!(*|*)", "(*)", "((*&*))", "*", "a<0", "d>9", "b=5", "#0-0", "#0-999999", "#000000-000000",
            "#999999-999999", "#1-000001", "#000010-10", "#5-6"};
        int[] kinds = {13, 13, 13, 14, 17, 14, 15, 15, 15, 16, 16, 16, 16, 16, 16, 16};
        for (int i = 0; i < fine.length; i++) {
            Tried x = new Tried().does("feature(1)").rule(0, fine[i] + ":1", 0).does("show(0, 0, 0, 0)").due("holds(0)", kinds[i]);
            x.does("show(0, 0, 0, 1)").due("holds(0)", fine[i].equals("!!a<0") ? 13 : fine[i].equals("!(*|*)") ? 18
                : kinds[i] == 13 || kinds[i] == 17 ? 14 : kinds[i]);
        }
        dueSo("!#2-3", 9);
        dueSo("!!#2-3", 6);
        dueSo("!#2-3&#1-2", 1);
        dueSo("!(#2-3&#1-2)", 13);
        dueSo("!(#2-3|#1-2)", 8);
        Tried x = new Tried().does("feature(1)");
        x.refusesRule(0, "e<1:1", -500).refusesRule(0, "A<1:1", -500).refusesRule(0, "a-1:1", -501).refusesRule(0, "a<<1:1", -502);
        x.refusesRule(0, "a<:1", -502).refusesRule(0, "a<10:1", -503).refusesRule(0, "!:1", -501).refusesRule(0, "():1", -501);
        x.refusesRule(0, "(*:1", -502).refusesRule(0, "*):1", -501).refusesRule(0, "*!:1", -501).refusesRule(0, "#-1:1", -501);
        x.refusesRule(0, "#1:1", -502).refusesRule(0, "#1-:1", -503).refusesRule(0, "#6-5:1", -503).refusesRule(0, "#1--2:1", -503);
        x.refusesRule(0, "#1000000-1000000:1", -507).refusesRule(0, "#1-1000000:1", -509).refusesRule(0, "#0000001-2:1", -507);
        x.refusesRule(0, "#0-0000002:1", -509).refusesRule(0, "#999999-999998:1", -508).refusesRule(0, "#1-0:1", -503);
    }

    /**
     * At each place of a text each byte: only those may stand there that the row says. A byte that may not is the FAULT;
     * behind one that may, the tape ends too early, or the rule is whole.
     */
    private static void dueLetters(String text, String... may) {
        for (int place = 0; place <= text.length(); place++) {
            for (int letter = 0; letter <= 255; letter++) {
                Tried x = new Tried().does("feature(3)").feed(text.substring(0, place)).does("feed(" + letter + ")");
                String row = may[place];
                boolean ends = row.startsWith("$");
                int want = row.indexOf(letter, ends ? 1 : 0) < 0 ? -500 - place : ends && DIGITS.indexOf(letter) >= 0 ? 0 : -501 - place;
                x.due("rule(0)", want);
            }
        }
    }

    private static void faults() {
        sentence("The FAULT: the place of the first byte that can't stand there,");
        // A row that begins with $: behind a digit there, the rule is whole.
        dueLetters("!(a<5&#0-20|b>3)|*%1,22,222", OPERANDS, OPERANDS, OPERANDS, SIGNS, DIGITS, "&|)", OPERANDS, DIGITS, DIGITS + "-",
            DIGITS, DIGITS + "&|)", DIGITS + "&|)", OPERANDS, SIGNS, DIGITS, "&|)", "&|:%", OPERANDS, "&|:%", DIGITS, DIGITS + ",",
            DIGITS, DIGITS + ",", DIGITS + ",", "$" + DIGITS, "$" + DIGITS, "$" + DIGITS, "");
        dueLetters("#000000-999999:3", OPERANDS, DIGITS, DIGITS + "-", DIGITS + "-", DIGITS + "-", DIGITS + "-", DIGITS + "-", "-",
            DIGITS, DIGITS + "&|:%", DIGITS + "&|:%", DIGITS + "&|:%", DIGITS + "&|:%", DIGITS + "&|:%", "&|:%", "$0123", "");
        dueLetters("((*)&d=9)%222,222,0", OPERANDS, OPERANDS, OPERANDS, "&|)", "&|)", OPERANDS, SIGNS, DIGITS, "&|)", "&|:%", DIGITS,
            DIGITS + ",", DIGITS + ",", ",", DIGITS, DIGITS + ",", DIGITS + ",", ",", "$" + DIGITS, "$" + DIGITS);
    }

    private static void faultyNumbers() {
        sentence("also of the first digit of a number that may not be (PARTS 0 to 333, of 1 to 3 digits; of VARIANTS that the FEATURE "
            + "hasn't 0 alone);");
        Tried x = new Tried().does("feature(3)").rule(0, "*%333,333,333", 0).rule(0, "*%0,000,00", 1).rule(0, "*%001,033,9", 2);
        x.refusesRule(0, "*%334,0,0", -502).refusesRule(0, "*%0,334,0", -504).refusesRule(0, "*%0,0,334", -506);
        x.refusesRule(0, "*%999,0,0", -502).refusesRule(0, "*%333,333,400", -510).refusesRule(0, "*%0333,0,0", -505);
        x.refusesRule(0, "*%0,0,0333", -509).refusesRule(0, "#10-9:1", -504).refusesRule(0, "*&#000010-000009:1", -510);
        Tried two = new Tried().does("feature(2)").rule(0, "*%333,333,0", 0).refusesRule(0, "*%0,0,1", -506);
        two.refusesRule(0, "*%333,333,333", -510).refusesRule(0, "*%0,334,1", -504).refusesRule(0, "*:3", -502);
        Tried one = new Tried().does("feature(1)").rule(0, "*%333,0,0", 0).refusesRule(0, "*%0,1,0", -504).refusesRule(0, "*%0,0,1", -506);
        one.refusesRule(0, "*%1,1,1", -504).refusesRule(0, "*%334,1,1", -502).refusesRule(0, "*:2", -502);
    }

    private static void tooEarly() {
        sentence("THE TAPE's size, if it ends too early.");
        String[] texts = {"!(a<5&#0-20|b>3)|*%1,22,222", "#000000-999999:3", "((*))&!!d=9:0"};
        for (String text : texts) {
            // Where the text ends in three digits, it is a rule with one or two of them, too.
            int digits = text.endsWith("222") ? 2 : 0;
            for (int size = 0; size < text.length() - digits; size++) {
                new Tried().does("feature(3)").rule(0, text.substring(0, size), -500 - size);
            }
            for (int size = text.length() - digits; size <= text.length(); size++) {
                new Tried().does("feature(3)").rule(0, text.substring(0, size), 0);
            }
        }
        new Tried().does("feature(3)").refusesRule(0, "", -500).refusesRule(0, "(".repeat(250), -750).refusesRule(0, "*%1,1", -505);
        // Nothing of what ended too early is left for the next.
        Tried x = persons(4).does("feature(3)").rule(0, "!(*&!(#1-1|!(", -513).rule(0, "#1-2:1", 0).due("so(0, 0)", 3).dueSpelling(0, 0, "#1-2:1");
        x.rule(0, "(((!*&*|(", -509).refusesRule(0, "*)", -501).refusesRule(0, "*&*):1", -503).rule(0, "*|*%1,2,3", 1).rule(0, "*%7,8,", -506);
        x.dueSpelling(0, 1, "*|*%1,2,3").rule(0, "a<1:0", 2).dueSpelling(0, 2, "a<1:0").rule(0, "*%4,5,6", 3).dueSpelling(0, 3, "*%4,5,6");
        x.rule(0, "*&!", -503).rule(0, "#3-4:2", 4).dueSpelling(0, 4, "#3-4:2").due("so(0, 4)", 12);
        x.rule(0, "*|#1-1&", -507).rule(0, "#2-3:2", 5).dueSpelling(0, 5, "#2-3:2").due("so(0, 5)", 6);
    }

    private static void dueSpelled(String letters, String want) {
        new Tried().does("feature(3)").rule(0, letters, 0).dueSpelling(0, 0, want);
    }

    private static void spelled() {
        sentence("SPELLED likewise, without brackets but where without them it would be another one, numbers without zeros ahead.");
        String[] same = {"!(*&*):1", "!(*|*):1", "*&(a<1&b<1):1", "*|(a<1|b<1):1", "(*|*)&*:1", "*&(*|*):1", "a=1|b=2&c=3:1", "a=1&b=2|c=3:1",
            "!!!*:0", "!*&!*|!*:1", "!(!*&*):1", "(!(a<1|b>2)|*)&*:1", "#0-0%0,1,10", "#10-100%99,100,333", "*&(*&(*&(*&*))):1",
            "*|(*|*&(*|*)):1"};
        for (String text : same) {
            dueSpelled(text, text);
        }
        dueSpelled("(*):1", "*:1");
        dueSpelled("!(*):1", "!*:1");
        dueSpelled("!(!(a<5)):1", "!!a<5:1");
        dueSpelled("(*&*)&*:1", "*&*&*:1");
        dueSpelled("(*|*)|*:1", "*|*|*:1");
        dueSpelled("(*&*)|(*&*):1", "*&*|*&*:1");
        dueSpelled("*|(*&*):1", "*|*&*:1");
        dueSpelled("(!*)&(!(#1-2)):1", "!*&!#1-2:1");
        dueSpelled("((((*|*))))&((*)):1", "(*|*)&*:1");
        dueSpelled("#000000-000001%000,001,010", "#0-1%0,1,10");
        dueSpelled("#000009-0010%00,01,099", "#9-10%0,1,99");
        dueSpelled("#00100-010000|#099999-100000:1", "#100-10000|#99999-100000:1");
        Tried x = new Tried().does("feature(3)").rule(0, "*%1,1,1", 0).does("part(0, 0, 1, 333)", "part(0, 0, 3, 0)");
        x.dueSpelling(0, 0, "*%333,1,0");
    }
}
