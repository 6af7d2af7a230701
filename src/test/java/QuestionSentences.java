/** Tests of the sentences of the promises 27 to 49, each with the edges that it names. */
final class QuestionSentences extends Sentences {
    static void test() {
        ask();
        would();
        path();
        later();
        reach();
        counted();
        by();
        so();
        grow();
        moved();
        shakes();
        overlap();
        needed();
        kept();
        forget();
        spelled();
        featureOf();
        judge();
        days();
        seed();
        image();
        back();
        status();
    }

    private static void noneIsNotRefused(Tried x, String call) {
        sentence("(NONE isn't refused.)");
        x.changesNothing(call).dueThere(call, NONE);
    }

    private static void refusesAll(Tried x, int want, String... calls) {
        for (String call : calls) {
            x.refuses(call, want);
        }
    }

    /** Persons whose BUCKETS by the SALT of FEATURE 0 are at the edges of PARTS. */
    private static final int[] EDGES = {0, 1, 331, 332, 333, 334, 664, 665, 666, 667, 997, 998, 999};

    private static Tried atEdges(String rule) {
        Tried x = new Tried().does("feature(3)").rule(0, rule, 0);
        for (int edge : EDGES) {
            x.does("person(" + keyIn(1, edge) + ", 0)");
        }
        return x;
    }

    private static void ask() {
        promise(27);
        sentence("A FEATURE is ASKED for a PERSON: the VARIANT.");
        Tried x = persons(24);
        for (int f = 0; f < 12; f++) {
            x.does("feature(3)", "tell(" + f + ", 2, " + f % 4 + ")");
        }
        for (int f = 0; f < 12; f++) {
            x.due("ask(" + f + ", 1)", f % 4).due("ask(" + f + ", 24)", f % 4).due("counted(" + f + ", " + f % 4 + ")", 2);
        }
        x.due("status(7)", 24);
        sentence("BAD.");
        refusesAll(x, BAD, "ask(12, 1)", "ask(-1, 1)", "ask(0, 0)", "ask(0, 25)", "ask(0, -1)", "ask(0, 1000000)", "ask(12, 25)");
        refusesAll(x, BAD, "ask(0, " + HIGH + ")", "ask(0, " + LOW + ")", "ask(" + HIGH + ", 1)", "ask(" + LOW + ", 1)");
    }

    private static void would() {
        promise(28);
        sentence("What its ANSWER is: VARIANT (what 0), REASON (1), NUMBER (2; NONE: none), how long THE PATH is (3).");
        Tried x = persons(2).does("feature(3)", "feature(1)", "needs(0, 1, 1)", "override(0, 2, 3)").rule(0, "#9-9:0", 0).rule(0, "*:2", 1);
        x.due("would(0, 1, 0)", 0).due("would(0, 1, 1)", 3).due("would(0, 1, 2)", 1).due("would(0, 1, 3)", 2);
        x.due("would(0, 2, 0)", 3).due("would(0, 2, 1)", 1).due("would(0, 2, 2)", NONE).due("would(0, 2, 3)", 1);
        x.does("tell(1, 2, 1)").due("would(0, 1, 0)", 2).due("would(0, 1, 1)", 6).due("would(0, 1, 2)", 1).due("would(0, 1, 3)", 2);
        x.due("status(7)", 0).due("counted(0, 2)", 0);
        sentence("BAD.");
        refusesAll(x, BAD, "would(0, 1, 4)", "would(0, 1, -1)", "would(0, 3, 0)", "would(2, 1, 0)", "would(-1, 1, 0)", "would(0, -1, 0)");
        refusesAll(x, BAD, "would(0, 1, " + HIGH + ")", "would(0, 1, " + LOW + ")", "would(2, 3, 4)");
        noneIsNotRefused(x, "would(0, 2, 2)");
    }

    private static void path() {
        promise(29);
        sentence("The i-th of THE PATH: FEATURE (what 0), REASON (1), NUMBER (2; NONE), VARIANT (3).");
        Tried x = persons(1).does("feature(3)", "feature(2)", "feature(1)", "needs(0, 1, 2)", "needs(1, 2, 0)", "tell(1, 2, 2)");
        x.does("layer(2, 3, 0, 0)").rule(0, "*:3", 0);
        int[][] want = {{2, 4, 3, 0}, {1, 7, NONE, 2}, {0, 6, 0, 3}};
        for (int i = 0; i < 3; i++) {
            for (int what = 0; what <= 3; what++) {
                x.due("path(0, 1, " + i + ", " + what + ")", want[i][what]);
            }
        }
        sentence("BAD: also no i-th.");
        refusesAll(x, BAD, "path(0, 1, 3, 0)", "path(0, 1, -1, 0)", "path(1, 1, 2, 0)", "path(2, 1, 1, 0)", "path(0, 1, 0, 4)", "path(0, 1, 0, -1)");
        refusesAll(x, BAD, "path(3, 1, 0, 0)", "path(-1, 1, 0, 0)", "path(0, 2, 0, 0)", "path(0, 1, " + HIGH + ", 0)", "path(0, 1, " + LOW + ", 0)");
        refusesAll(x, BAD, "path(0, 1, 0, " + HIGH + ")", "path(0, 1, 12, 0)");
        noneIsNotRefused(x, "path(0, 1, 1, 2)");
    }

    private static void later() {
        promise(30);
        sentence("What VARIANT it would be at a TIME (NOW to NOW and 9999), were all STEPS till then DONE.");
        // Person 1 has bucket 88 by the salt of feature 0.
        Tried x = persons(1).does("feature(1)", "feature(1)", "needs(1, 0, 1)", "tell(1, 2, 1)").rule(0, "*%0,0,0", 0).does("pass(5)");
        x.does("step(9, 0, 0, 1, 88)", "step(9, 0, 0, 1, 89)", "step(10004, 0, 0, 1, 0)", "step(5, 0, 0, 1, 333)", "step(7, 0, 0, 1, 88)");
        x.does("step(10005, 0, 0, 1, 333)", "step(8, 0, 1, 1, 333)");
        int[][] want = {{5, 1}, {6, 1}, {7, 0}, {8, 0}, {9, 1}, {10, 1}, {10003, 1}, {10004, 0}};
        for (int[] w : want) {
            x.due("later(0, 1, " + w[0] + ")", w[1]).due("later(1, 1, " + w[0] + ")", w[1]);
        }
        x.due("would(0, 1, 0)", 0).due("status(4)", 7).due("status(5)", 5);
        x.does("pass(1)").due("later(0, 1, 10005)", 1);
        sentence("BAD.");
        refusesAll(x, BAD, "later(0, 1, 5)", "later(0, 1, 10006)", "later(0, 1, -1)", "later(2, 1, 6)", "later(-1, 1, 6)", "later(0, 2, 6)");
        refusesAll(x, BAD, "later(0, 1, " + HIGH + ")", "later(0, 1, " + LOW + ")");
        Tried y = persons(1).does("feature(1)").due("later(0, 1, 0)", 0).due("later(0, 1, 9999)", 0);
        refusesAll(y, BAD, "later(0, 1, 10000)", "later(0, 1, -1)", "later(0, 0, 0)", "later(1, 1, 0)");
    }

    private static void reach() {
        promise(31);
        sentence("How many PERSONS get a VARIANT.");
        new Tried().does("feature(3)").due("reach(0, 0)", 0).due("reach(0, 3)", 0);
        persons(24).does("feature(3)", "tell(0, 2, 3)").due("reach(0, 3)", 24).due("reach(0, 0)", 0).does("override(0, 24, 0)").due("reach(0, 3)", 23);
        atEdges("*%333,333,333").due("reach(0, 1)", 4).due("reach(0, 2)", 4).due("reach(0, 3)", 4).due("reach(0, 0)", 1);
        atEdges("*%332,332,332").due("reach(0, 1)", 3).due("reach(0, 2)", 3).due("reach(0, 3)", 3).due("reach(0, 0)", 4);
        Tried x = atEdges("*%1,1,1").due("reach(0, 1)", 1).due("reach(0, 2)", 1).due("reach(0, 3)", 1).due("reach(0, 0)", 10);
        sentence("BAD.");
        x.does("feature(1)");
        refusesAll(x, BAD, "reach(0, 4)", "reach(0, -1)", "reach(1, 2)", "reach(2, 0)", "reach(-1, 0)", "reach(0, " + HIGH + ")", "reach(0, " + LOW + ")");
    }

    private static void counted() {
        promise(32);
        sentence("How often a VARIANT was COUNTED.");
        Tried x = persons(1).does("feature(3)", "feature(1)");
        for (int variant = 0; variant <= 3; variant++) {
            x.does("tell(0, 2, " + variant + ")").due("counted(0, " + variant + ")", 0);
            for (int i = 0; i <= variant; i++) {
                x.does("ask(0, 1)");
            }
            x.due("counted(0, " + variant + ")", variant + 1);
        }
        // What is not in truth is not counted.
        x.does("would(0, 1, 0)", "later(0, 1, 9)", "reach(0, 3)", "path(0, 1, 0, 3)").due("counted(0, 3)", 4).due("counted(1, 0)", 0);
        int second = daysOfTheSecond();
        x.due("days(60)", 60 - second).due("counted(0, 3)", 64 - second).due("counted(1, 0)", second);
        sentence("BAD.");
        refusesAll(x, BAD, "counted(0, 4)", "counted(0, -1)", "counted(1, 2)", "counted(2, 0)", "counted(-1, 0)", "counted(0, " + HIGH + ")");
    }

    /** On how many of 60 days by draws, from seed 1 on, it is the second of two features. */
    private static int daysOfTheSecond() {
        int seed = 1;
        int second = 0;
        for (int draw = 0; draw < 3 * 60; draw++) {
            seed = seed * 1103515245 + 12345;
            second += draw % 3 == 0 ? (seed >>> 16) % 2 : 0;
        }
        return second;
    }

    private static void by() {
        promise(33);
        sentence("PERSONS (bits, by their order) by whose REASON it is (1 to 7).");
        Tried none = new Tried().does("feature(1)");
        for (int reason = 1; reason <= 7; reason++) {
            none.due("by(0, " + reason + ")", 0);
        }
        Tried x = persons(24).does("feature(1)", "feature(1)").due("by(0, 7)", 0xffffff);
        x.does("override(0, 1, 1)", "override(0, 24, 0)").due("by(0, 1)", 0x800001).due("by(0, 7)", 0x7ffffe);
        x.does("tell(0, 0, 1)").due("by(0, 2)", 0x7ffffe).due("by(0, 7)", 0).does("tell(0, 0, 0)");
        x.rule(1, "#2-2|#24-24:1", 0).does("needs(0, 1, 0)").due("by(0, 3)", 2).due("by(0, 1)", 0x800001).due("by(0, 7)", 0x7ffffc);
        x.rule(0, "#3-4:0", 0).due("by(0, 6)", 12).due("by(0, 7)", 0x7ffff0).due("by(0, 4)", 0).due("by(0, 5)", 0);
        Tried layered = persons(24).does("feature(1)", "layer(0, 2, 500, 999)", "tell(0, 1, 1)").rule(0, "*%333,0,0", 0);
        int out = 0;
        int kept = 0;
        for (int key = 1; key <= 24; key++) {
            out |= bucketOf(102, key) < 500 ? 1 << key - 1 : 0;
            kept |= bucketOf(102, key) >= 500 && bucketOf(1, key) < 333 ? 1 << key - 1 : 0;
            layered.does("ask(0, " + key + ")");
        }
        layered.due("by(0, 4)", out).due("by(0, 5)", kept).due("by(0, 6)", 0xffffff & ~out & ~kept);
        sentence("BAD.");
        refusesAll(x, BAD, "by(0, 0)", "by(0, 8)", "by(0, -1)", "by(2, 1)", "by(-1, 1)", "by(0, " + HIGH + ")", "by(0, " + LOW + ")");
    }

    private static void so() {
        promise(34);
        sentence("PERSONS (bits) for whom the CONDITION of a RULE is so.");
        Tried x = persons(24).does("feature(1)").rule(0, "*:0", 0).rule(0, "!*:1", 1).rule(0, "#1-1:1", 2).rule(0, "#24-24:1", 3);
        x.due("so(0, 0)", 0xffffff).due("so(0, 1)", 0).due("so(0, 2)", 1).due("so(0, 3)", 0x800000);
        // The CONDITION alone counts, whatever the ANSWER is.
        x.does("tell(0, 0, 1)", "override(0, 1, 1)").due("so(0, 0)", 0xffffff).due("so(0, 2)", 1).does("gone(1)").due("so(0, 3)", 0x400000);
        new Tried().does("feature(1)").rule(0, "*:0", 0).due("so(0, 0)", 0);
        sentence("BAD.");
        refusesAll(x, BAD, "so(0, 4)", "so(0, -1)", "so(1, 0)", "so(-1, 0)", "so(0, " + HIGH + ")", "so(" + LOW + ", 0)");
    }

    private static void grow() {
        promise(35);
        sentence("The least PART (0 to 333) of a VARIANT of a RULE by which the VARIANT would reach n PERSONS (0 to 24) at least; NONE.");
        for (String rule : new String[] {"*%0,0,0", "*%333,333,333", "*%7,8,9"}) {
            Tried x = atEdges(rule);
            for (int variant = 1; variant <= 3; variant++) {
                int[] least = {0, 1, 2, 332, 333, NONE, NONE};
                for (int n = 0; n < least.length; n++) {
                    x.due("grow(0, 0, " + variant + ", " + n + ")", least[n]);
                }
                x.due("grow(0, 0, " + variant + ", 24)", NONE);
            }
        }
        // Who has it anyhow counts; who can't get it by that rule doesn't.
        Tried x = atEdges("*%0,0,0").does("override(0, " + keyIn(1, 999) + ", 1)").due("grow(0, 0, 1, 1)", 0).due("grow(0, 0, 1, 2)", 1);
        x.due("grow(0, 0, 1, 5)", 333).due("grow(0, 0, 1, 6)", NONE).does("override(0, " + keyIn(1, 0) + ", 2)").due("grow(0, 0, 1, 2)", 2);
        x.due("grow(0, 0, 1, 4)", 333).due("grow(0, 0, 1, 5)", NONE).does("tell(0, 0, 1)").due("grow(0, 0, 1, 1)", 0).due("grow(0, 0, 1, 2)", NONE);
        Tried then = atEdges("*%0,0,0").due("grow(0, 0, 1, 1)", 1).does("override(0, " + keyIn(1, 999) + ", 1)").due("grow(0, 0, 1, 1)", 0);
        then.does("override(0, " + keyIn(1, 0) + ", 1)").due("grow(0, 0, 1, 2)", 0).due("grow(0, 0, 1, 3)", 2);
        Tried behind = atEdges("#0-999999:0").rule(0, "*%0,0,0", 1).due("grow(0, 1, 1, 0)", 0).due("grow(0, 1, 1, 1)", NONE);
        new Tried().does("feature(1)").rule(0, "*%9,0,0", 0).due("grow(0, 0, 1, 0)", 0).due("grow(0, 0, 1, 1)", NONE);
        // All 24 of one bucket.
        Tried same = new Tried().does("feature(1)").rule(0, "*%0,0,0", 0);
        for (int key = 0, count = 0; count < 24; key++) {
            if (bucketOf(1, key) == 332) {
                same.does("person(" + key + ", 0)");
                count++;
            }
        }
        same.due("grow(0, 0, 1, 1)", 333).due("grow(0, 0, 1, 24)", 333).due("grow(0, 0, 1, 0)", 0);
        sentence("BAD;");
        behind.does("feature(1)").rule(1, "*%0,0,0", 0);
        refusesAll(behind, BAD, "grow(0, 1, 1, -1)", "grow(0, 1, 1, 25)", "grow(0, 1, 0, 1)", "grow(0, 1, 4, 1)", "grow(0, 1, -1, 1)", "grow(1, 0, 2, 1)");
        refusesAll(behind, BAD, "grow(0, 2, 1, 1)", "grow(0, -1, 1, 1)", "grow(2, 0, 1, 1)", "grow(-1, 0, 1, 1)", "grow(0, 0, 1, 25)", "grow(0, 0, 0, 1)");
        refusesAll(behind, BAD, "grow(0, 1, 1, " + HIGH + ")", "grow(0, 1, 1, " + LOW + ")", "grow(0, 1, " + HIGH + ", 1)");
        sentence("STUCK: it is FIXED.");
        refusesAll(behind, STUCK, "grow(0, 0, 1, 0)", "grow(0, 0, 3, 24)");
        noneIsNotRefused(behind, "grow(0, 1, 1, 24)");
    }

    private static void moved() {
        promise(36);
        sentence("PERSONS (bits) whose ANSWER of the FEATURE would be another, were a PART v.");
        for (int part : new int[] {0, 1, 2, 332, 333}) {
            Tried x = atEdges("*%" + part + "," + part + "," + part);
            for (int variant = 1; variant <= 3; variant++) {
                for (int v : new int[] {0, 1, 2, 332, 333}) {
                    int bits = 0;
                    for (int i = 0; i < EDGES.length; i++) {
                        int at = EDGES[i] - 333 * (variant - 1);
                        boolean in = at >= 0 && at < 333;
                        bits |= in && at < part != at < v ? 1 << i : 0;
                    }
                    x.due("moved(0, 0, " + variant + ", " + v + ")", bits);
                }
            }
        }
        Tried x = atEdges("*%0,0,0").rule(0, "*:2", 1).due("moved(0, 0, 1, 333)", 15).does("override(0, " + keyIn(1, 0) + ", 0)");
        x.due("moved(0, 0, 1, 333)", 14).does("tell(0, 0, 1)").due("moved(0, 0, 1, 333)", 0).does("tell(0, 0, 0)", "feature(1)");
        Tried all = new Tried().does("feature(1)").rule(0, "*%0,0,0", 0);
        for (int key = 0, count = 0; count < 24; key++) {
            if (bucketOf(1, key) < 333) {
                all.does("person(" + key + ", 0)");
                count++;
            }
        }
        all.due("moved(0, 0, 1, 333)", 0xffffff).due("moved(0, 0, 1, 0)", 0);
        sentence("BAD;");
        x.rule(1, "*%1,0,0", 0);
        refusesAll(x, BAD, "moved(0, 0, 1, 334)", "moved(0, 0, 1, -1)", "moved(0, 0, 0, 1)", "moved(0, 0, 4, 1)", "moved(1, 0, 2, 0)", "moved(0, 2, 1, 1)");
        refusesAll(x, BAD, "moved(0, -1, 1, 1)", "moved(2, 0, 1, 1)", "moved(-1, 0, 1, 1)", "moved(0, 1, 1, 334)", "moved(0, 1, 0, 1)");
        refusesAll(x, BAD, "moved(0, 0, 1, " + HIGH + ")", "moved(0, 0, 1, " + LOW + ")");
        sentence("STUCK: it is FIXED.");
        refusesAll(x, STUCK, "moved(0, 1, 1, 0)", "moved(0, 1, 3, 333)");
    }

    private static void shakes() {
        promise(37);
        sentence("FEATURES (bits) of which somebody's ANSWER would be another, were one KILLED (or not, if it is).");
        Tried x = persons(24);
        for (int f = 0; f < 12; f++) {
            x.does("feature(1)", "tell(" + f + ", 2, 1)");
        }
        for (int f = 0; f < 11; f++) {
            x.does("needs(" + f + ", " + (f + 1) + ", 1)");
        }
        x.due("shakes(11)", 0xfff).due("shakes(0)", 1).due("shakes(5)", 0x3f).does("tell(11, 0, 1)").due("shakes(11)", 0xfff).due("shakes(0)", 0);
        // One person is enough, the first or the last.
        x.does("tell(11, 0, 0)", "tell(11, 2, 0)").due("shakes(11)", 0).does("override(5, 24, 1)").due("shakes(5)", 0).due("shakes(4)", 0x1f);
        x.does("override(5, 24, -1)", "override(5, 1, 1)").due("shakes(4)", 0x1f).due("shakes(3)", 0xf).due("shakes(6)", 0);
        // Who needs it to be off comes in.
        Tried y = persons(1).does("feature(1)", "feature(1)", "tell(0, 2, 1)", "tell(1, 2, 1)", "needs(1, 0, 0)").due("shakes(0)", 3);
        y.does("tell(0, 0, 1)").due("shakes(0)", 3).does("tell(0, 2, 0)").due("shakes(0)", 0);
        new Tried().does("feature(1)", "tell(0, 2, 1)").due("shakes(0)", 0);
        sentence("BAD.");
        refusesAll(x, BAD, "shakes(12)", "shakes(-1)", "shakes(" + HIGH + ")", "shakes(" + LOW + ")");
        new Tried().refuses("shakes(0)", BAD);
    }

    private static void overlap() {
        promise(38);
        sentence("PERSONS (bits) for whom two FEATURES aren't 0.");
        Tried x = persons(24).does("feature(3)", "feature(1)", "feature(1)", "tell(0, 2, 3)", "tell(1, 2, 1)").due("overlap(0, 1)", 0xffffff);
        x.due("overlap(1, 0)", 0xffffff).due("overlap(0, 2)", 0).due("overlap(2, 0)", 0).due("overlap(2, 2)", 0).due("overlap(0, 0)", 0xffffff);
        x.does("override(2, 1, 1)", "override(2, 24, 1)", "override(2, 5, 1)", "override(0, 5, 0)").due("overlap(0, 2)", 0x800001);
        x.due("overlap(1, 2)", 0x800011);
        new Tried().does("feature(1)", "tell(0, 2, 1)").due("overlap(0, 0)", 0);
        sentence("BAD.");
        refusesAll(x, BAD, "overlap(3, 0)", "overlap(0, 3)", "overlap(-1, 0)", "overlap(0, -1)", "overlap(3, 3)", "overlap(" + HIGH + ", 0)");
        refusesAll(x, BAD, "overlap(0, " + LOW + ")");
    }

    private static void needed() {
        promise(39);
        sentence("FEATURES (bits) that one needs, by others, too.");
        Tried x = new Tried();
        for (int f = 0; f < 12; f++) {
            x.does("feature(1)").due("needed(" + f + ")", 0);
        }
        for (int f = 11; f > 0; f--) {
            x.does("needs(" + f + ", " + (f - 1) + ", 0)");
        }
        for (int f = 0; f < 12; f++) {
            x.due("needed(" + f + ")", (1 << f) - 1);
        }
        x.does("free(6)").due("needed(11)", 0x7c0).due("needed(6)", 0).due("needed(5)", 0x1f);
        x.does("needs(6, 0, 0)", "needs(6, 0, 1)", "needs(6, 3, 1)").due("needed(6)", 0xf).due("needed(11)", 0x7cf);
        sentence("BAD.");
        refusesAll(x, BAD, "needed(12)", "needed(-1)", "needed(" + HIGH + ")", "needed(" + LOW + ")");
        new Tried().refuses("needed(0)", BAD);
    }

    private static void kept() {
        promise(40);
        sentence("What is KEPT for a PERSON; NONE.");
        Tried x = atEdges("*%333,333,333").does("feature(1)", "tell(0, 1, 1)");
        for (int edge : EDGES) {
            int key = keyIn(1, edge);
            int variant = edge == 999 ? 0 : edge / 333 + 1;
            x.due("kept(0, " + key + ")", NONE).due("ask(0, " + key + ")", variant).due("kept(0, " + key + ")", variant == 0 ? NONE : variant);
            x.due("kept(1, " + key + ")", NONE);
        }
        sentence("BAD.");
        int key = keyIn(1, 0);
        refusesAll(x, BAD, "kept(2, " + key + ")", "kept(-1, " + key + ")", "kept(0, 999999)", "kept(0, -1)", "kept(0, 1000000)");
        x.does("gone(" + key + ")").refuses("kept(0, " + key + ")", BAD);
        noneIsNotRefused(x, "kept(0, " + keyIn(1, 999) + ")");
    }

    private static void forget() {
        promise(41);
        sentence("Nothing is KEPT for a FEATURE: for how many there was.");
        Tried x = persons(24).does("feature(3)", "feature(3)", "tell(0, 1, 1)", "tell(1, 1, 1)").due("forget(0)", 0);
        x.rule(0, "*%333,333,333", 0).rule(1, "*%333,333,333", 0);
        int[] many = new int[2];
        for (int key = 1; key <= 24; key++) {
            for (int f = 0; f < 2; f++) {
                x.does("ask(" + f + ", " + key + ")");
                many[f] += bucketOf(f + 1, key) < 999 ? 1 : 0;
            }
        }
        x.due("status(6)", many[0] + many[1]).due("forget(0)", many[0]).due("status(6)", many[1]).due("featureOf(0, 9)", 0).due("forget(0)", 0);
        x.due("kept(0, 1)", NONE).due("kept(0, 24)", NONE).due("would(0, 1, 1)", 6).due("featureOf(1, 9)", many[1]).due("forget(1)", many[1]);
        x.does("ask(0, 1)").due("forget(0)", 1);
        sentence("BAD.");
        refusesAll(x, BAD, "forget(2)", "forget(-1)", "forget(" + HIGH + ")", "forget(" + LOW + ")");
    }

    private static void spelled() {
        promise(42);
        sentence("The i-th letter of a RULE SPELLED;");
        Tried x = new Tried().does("feature(3)").rule(0, "((!#0001-0020))&*%033,0,333", 0).rule(0, "!".repeat(247) + "*:3", 1);
        String want = "!#1-20&*%33,0,333";
        for (int i = 0; i < want.length(); i++) {
            x.due("spelled(0, 0, " + i + ")", want.charAt(i));
        }
        x.due("spelled(0, 1, 0)", '!').due("spelled(0, 1, 246)", '!').due("spelled(0, 1, 247)", '*').due("spelled(0, 1, 248)", ':');
        x.due("spelled(0, 1, 249)", '3');
        sentence("NONE: none such.");
        x.due("spelled(0, 0, " + want.length() + ")", NONE).due("spelled(0, 1, 250)", NONE).due("spelled(0, 0, -1)", NONE);
        x.due("spelled(0, 0, " + HIGH + ")", NONE).due("spelled(0, 0, " + LOW + ")", NONE);
        // A PART may grow, and the RULE be longer than THE TAPE was.
        Tried y = new Tried().does("feature(3)").rule(0, "*" + "&*".repeat(121) + "%0,0,0", 0).due("spelled(0, 0, 249)", NONE);
        y.does("part(0, 0, 1, 333)", "part(0, 0, 2, 332)", "part(0, 0, 3, 331)").due("spelled(0, 0, 246)", '3').due("spelled(0, 0, 250)", '2');
        y.due("spelled(0, 0, 254)", '1').due("spelled(0, 0, 255)", NONE);
        sentence("BAD.");
        x = new Tried().does("feature(3)").rule(0, "*:1", 0).rule(0, "*:2", 1);
        refusesAll(x, BAD, "spelled(0, 2, 0)", "spelled(0, -1, 0)", "spelled(1, 0, 0)", "spelled(-1, 0, 0)", "spelled(0, 2, -1)");
        noneIsNotRefused(x, "spelled(0, 0, 99)");
    }

    private static void featureOf() {
        promise(43);
        sentence("Of a FEATURE: its greatest VARIANT (0), KILLED (1), STICKY (2), FALLBACK (3), RULES (4), NEEDS (5), OVERRIDES (6), LAYER (7; "
            + "NONE), how many BUCKETS its RANGE has (8; 0 without), for how many something is KEPT (9).");
        Tried x = persons(24).does("feature(1)", "feature(2)", "feature(3)", "feature(2)");
        for (int f = 0; f < 4; f++) {
            int[] first = {f == 3 ? 2 : f + 1, 0, 0, 0, 0, 0, 0, NONE, 0, 0};
            for (int what = 0; what <= 9; what++) {
                x.due("featureOf(" + f + ", " + what + ")", first[what]);
            }
        }
        x.does("tell(2, 0, 1)", "tell(2, 2, 3)", "needs(2, 0, 1)", "needs(2, 1, 1)", "needs(2, 3, 1)", "layer(2, 3, 0, 999)", "tell(3, 1, 1)");
        for (int i = 0; i < 6; i++) {
            x.rule(2, "*:1", i);
        }
        for (int key = 1; key <= 8; key++) {
            x.does("override(2, " + key + ", 0)");
        }
        x.rule(3, "*%333,333,0", 0).does("layer(3, 0, 0, 0)", "layer(3, 0, 0, 999)");
        int keeps = 0;
        for (int key = 1; key <= 24; key++) {
            x.does("ask(3, " + key + ")");
            keeps += bucketOf(4, key) < 666 ? 1 : 0;
        }
        int[] full = {3, 1, 0, 3, 6, 3, 8, 3, 1000, 0};
        int[] sticky = {2, 0, 1, 0, 1, 0, 0, 0, 1000, keeps};
        for (int what = 0; what <= 9; what++) {
            x.due("featureOf(2, " + what + ")", full[what]).due("featureOf(3, " + what + ")", sticky[what]);
        }
        x.does("layer(2, 3, 999, 999)").due("featureOf(2, 8)", 1).does("layer(2, -1, 5, 9)").due("featureOf(2, 7)", NONE).due("featureOf(2, 8)", 0);
        sentence("BAD.");
        refusesAll(x, BAD, "featureOf(0, 10)", "featureOf(0, -1)", "featureOf(4, 0)", "featureOf(-1, 0)", "featureOf(0, " + HIGH + ")");
        refusesAll(x, BAD, "featureOf(0, " + LOW + ")", "featureOf(" + HIGH + ", 0)", "featureOf(4, 10)");
        noneIsNotRefused(x, "featureOf(0, 7)");
    }

    private static void judge() {
        promise(44);
        sentence("The first of told ANSWERS that isn't so: the first n twos (0 to 20) of the ROW in SHELF s: a KEY, a VARIANT; NONE.");
        Tried x = persons(20).does("feature(3)", "tell(0, 2, 2)", "row(7, 2, 40)");
        for (int i = 0; i < 20; i++) {
            x.does("set(7, " + 2 * i + ", " + (20 - i) + ")", "set(7, " + (2 * i + 1) + ", 2)");
        }
        x.due("judge(0, 7, 20)", NONE).due("judge(0, 7, 1)", NONE).due("judge(0, 7, 0)", NONE);
        x.does("set(7, 39, 3)").due("judge(0, 7, 20)", 19).due("judge(0, 7, 19)", NONE);
        x.does("set(7, 1, 0)").due("judge(0, 7, 20)", 0).due("judge(0, 7, 1)", 0).due("judge(0, 7, 0)", NONE);
        x.does("override(0, 20, 0)").due("judge(0, 7, 20)", 19).does("set(7, 3, -1)", "set(7, 5, 9)").due("judge(0, 7, 20)", 1);
        // VARIANTS that it hasn't are just not so; a long is not cut.
        Tried longs = persons(1).does("feature(1)", "row(0, 3, 2)", "set(0, 0, 1)").due("judge(0, 0, 1)", NONE);
        longs.does("set(0, 1, 4294967296)").due("judge(0, 0, 1)", 0);
        Tried booleans = persons(1).does("feature(1)", "tell(0, 2, 1)", "row(0, 4, 3)", "set(0, 0, 77)", "set(0, 1, -5)").due("judge(0, 0, 1)", NONE);
        sentence("BAD feature, SHELF, n;");
        refusesAll(x, BAD, "judge(1, 7, 1)", "judge(-1, 7, 1)", "judge(0, 8, 1)", "judge(0, -1, 1)", "judge(0, 7, 21)", "judge(0, 7, -1)");
        refusesAll(x, BAD, "judge(0, 5, 21)", "judge(1, 5, 1)", "judge(0, 7, " + HIGH + ")", "judge(0, 7, " + LOW + ")", "judge(0, 7, 1073741824)");
        sentence("OTHER;");
        x.rule(0, "*:1", 0).does("show(6, 0, 0, 0)").refuses("judge(0, 6, 0)", OTHER).refuses("judge(0, 6, 20)", OTHER).refuses("judge(0, 6, 21)", BAD);
        sentence("NOTHING;");
        x.refuses("judge(0, 5, 0)", NOTHING).refuses("judge(0, 5, 20)", NOTHING);
        sentence("BAD: fewer elements;");
        x.does("row(0, 2, 39)", "row(1, 2, 0)", "row(2, 2, 1)", "set(0, 0, 99)");
        refusesAll(x, BAD, "judge(0, 0, 20)", "judge(0, 1, 1)", "judge(0, 2, 1)");
        x.due("judge(0, 1, 0)", NONE).due("judge(0, 2, 0)", NONE).due("judge(0, 0, 0)", NONE);
        booleans.refuses("judge(0, 0, 2)", BAD);
        sentence("STUCK: no such PERSON (any).");
        x.refuses("judge(0, 0, 19)", STUCK).refuses("judge(0, 0, 1)", STUCK);
        x.does("set(7, 38, 0)").refuses("judge(0, 7, 20)", STUCK).due("judge(0, 7, 19)", 1).does("set(7, 38, -1)").refuses("judge(0, 7, 20)", STUCK);
        longs.does("set(0, 0, 4294967297)").refuses("judge(0, 0, 1)", STUCK);
        booleans.does("gone(1)").refuses("judge(0, 0, 1)", STUCK).due("judge(0, 0, 0)", NONE);
        noneIsNotRefused(x, "judge(0, 1, 0)");
    }

    private static void days() {
        promise(45);
        sentence("DAYS by draws, n (1 to 60): how many had an ANSWER that isn't 0.");
        for (int variant = 0; variant <= 3; variant++) {
            Tried x = persons(24).does("feature(3)", "tell(0, 2, " + variant + ")").due("days(1)", variant == 0 ? 0 : 1);
            x.due("days(60)", variant == 0 ? 0 : 60).due("counted(0, " + variant + ")", 61).due("status(7)", 61);
        }
        // Sixty days are as sixty times one.
        Tried ones = AnswersSentences.furnished();
        long on = 0;
        for (int i = 0; i < 60; i++) {
            on += ones.tell("days(1)");
        }
        Tried all = AnswersSentences.furnished().due("days(60)", on);
        Tried.dueAlike("sixty days", all, ones);
        sentence("BAD;");
        Tried x = AnswersSentences.furnished();
        refusesAll(x, BAD, "days(0)", "days(61)", "days(-1)", "days(" + HIGH + ")", "days(" + LOW + ")");
        new Tried().refuses("days(0)", BAD).refuses("days(61)", BAD);
        sentence("STUCK: no FEATURES, no PERSONS.");
        new Tried().refuses("days(1)", STUCK).refuses("days(60)", STUCK).does("feature(1)").refuses("days(1)", STUCK).refuses("days(61)", BAD);
        persons(1).refuses("days(1)", STUCK).refuses("days(60)", STUCK).does("feature(1)").due("days(1)", 0).does("gone(1)").refuses("days(1)", STUCK);
    }

    private static void seed() {
        promise(46);
        sentence("SEED becomes v: the one ahead.");
        Tried x = new Tried().due("seed(0)", 1).due("seed(-1)", 0).due("seed(" + HIGH + ")", -1).due("seed(" + LOW + ")", HIGH);
        x.due("status(9)", LOW).due("seed(-32)", LOW).due("seed(-36)", -32).due("seed(1)", -36).due("status(9)", 1);
        for (int refusal = 12; refusal <= 16; refusal++) {
            x.due("status(" + refusal + ")", 0);
        }
    }

    /** All that there is becomes another. */
    private static final String[] CHANGES = {"gone(1)", "person(8, 8)", "person(2, 7)", "feature(3)", "tell(0, 0, 1)", "tell(0, 1, 0)", "tell(2, 2, 2)",
        "part(0, 0, 1, 7)", "drop(0, 1)", "drop(2, 0)", "free(1)", "needs(0, 2, 0)", "override(1, 2, -1)", "override(0, 8, 2)", "layer(1, 2, 7, 8)",
        "layer(0, 1, 5, 6)", "step(50, 0, 0, 1, 1)", "days(9)", "forget(0)", "ask(2, 3)", "seed(3)", "pass(999)"};

    private static void image() {
        promise(47);
        sentence("All is kept, but THE TAPE, SHELVES and REFUSALS: 1.");
        for (String change : CHANGES) {
            Tried x = AnswersSentences.furnished().due("image()", 1).does(change, "back()");
            Tried.dueAlike("back from " + change, x, AnswersSentences.furnished());
        }
        Tried x = AnswersSentences.furnished().due("image()", 1).feed("xyz").does("row(7, 4, 1)", "set(0, 0, 9)", "feed(-1)", "set(2, 0, 0)", "set(6, 0, 0)");
        x.due("back()", 1).due("status(8)", 5).due("holds(7)", 4).due("element(0, 0)", 9).due("status(12)", 1).due("status(13)", 1).due("status(14)", 1);
        // Taken without anything, and taken again: the later one counts.
        Tried empty = new Tried().due("image()", 1).does("feature(1)", "person(1, 1)", "seed(5)", "pass(3)").due("back()", 1);
        Tried.dueAlike("back to nothing", empty, new Tried());
        empty.does("feature(2)").due("image()", 1).does("feature(3)").due("back()", 1).due("status(1)", 1).due("featureOf(0, 0)", 2);
    }

    private static void back() {
        promise(48);
        sentence("All is again as it was kept: 1.");
        Tried x = AnswersSentences.furnished().does("image()").does(CHANGES).due("back()", 1);
        Tried.dueAlike("back", x, AnswersSentences.furnished());
        x.does(CHANGES).due("back()", 1);
        Tried.dueAlike("back again", x, AnswersSentences.furnished());
        // A feature that is new again has nothing of the one that is no more.
        Tried y = persons(1).does("image()", "feature(3)", "tell(0, 0, 1)", "override(0, 1, 3)", "layer(0, 0, 0, 0)").rule(0, "*:3", 0).does("ask(0, 1)");
        y.does("back()").due("feature(3)", 0);
        Tried.dueAlike("a new feature", y, persons(1).does("feature(3)"));
        sentence("STUCK: nothing was.");
        new Tried().refuses("back()", STUCK).due("back()", STUCK).due("image()", 1).due("back()", 1).due("back()", 1);
        persons(3).does("feature(1)").refuses("back()", STUCK);
    }

    private static void status() {
        promise(49);
        sentence("PERSONS (0), FEATURES (1), RULES of all (2), NEEDS of all (3), STEPS (4), NOW (5), what is KEPT in all (6), how often something "
            + "was ASKED (7), THE TAPE's size (8), SEED (9), SHELVES that hold something (10);");
        int[] first = {0, 0, 0, 0, 0, 0, 0, 0, 0, 1, 0};
        Tried none = new Tried();
        for (int what = 0; what < first.length; what++) {
            none.due("status(" + what + ")", first[what]);
        }
        int[] furnished = {4, 3, 3, 1, 2, 2, keeps(), 2, 2, 99, 5};
        Tried x = AnswersSentences.furnished();
        for (int what = 0; what < furnished.length; what++) {
            x.due("status(" + what + ")", furnished[what]);
        }
        // As many as there may be.
        Tried most = persons(24);
        for (int f = 0; f < 12; f++) {
            most.does("feature(1)");
        }
        for (int f = 0; f < 9; f++) {
            most.does("needs(" + f + ", 9, 0)", "needs(" + f + ", 10, 0)", "needs(" + f + ", 11, 0)");
        }
        for (int f = 0; f < 12; f++) {
            for (int i = 0; i < 6; i++) {
                most.feed("*:0").does("rule(" + f + ")");
            }
        }
        most.due("status(0)", 24).due("status(1)", 12).due("status(2)", 72).due("status(3)", 27);
        Tried rest = new Tried().does("feature(1)");
        for (int i = 0; i < 24; i++) {
            rest.does("step(1000000, 0, 0, 1, 1)");
        }
        for (int s = 0; s <= 7; s++) {
            rest.does("row(" + s + ", 0, 0)");
        }
        rest.feed("*".repeat(250)).does("pass(999)", "seed(" + LOW + ")").due("status(4)", 24).due("status(5)", 999).due("status(8)", 250);
        rest.due("status(9)", LOW).due("status(10)", 8).does("show(3, -1, 0, 0)").due("status(10)", 7);
        sentence("12 to 16: REFUSALS -32 to -36.");
        Tried y = new Tried().does("row(0, 0, 1)", "row(1, 1, 1)", "feed(-1)");
        String[] calls = {"feed(-1)", "copy(0, 1, 0, 0, 1)", "set(5, 0, 1)", "back()"};
        for (int i = 0; i < calls.length; i++) {
            for (int n = 0; n <= i; n++) {
                y.does(calls[i]);
            }
        }
        for (int i = 0; i < 17; i++) {
            y.does("feature(1)");
        }
        int[] want = {2, 2, 3, 4, 5};
        for (int i = 0; i < want.length; i++) {
            y.due("status(" + (12 + i) + ")", want[i]);
        }
        sentence("NONE another what.");
        for (int what : new int[] {11, 17, -1, LOW, HIGH}) {
            y.due("status(" + what + ")", NONE);
        }
        y.due("status(12)", 2);
    }

    /** For how many of the persons 1 and 4 something is kept in what is furnished: rule 0 is so for 1 alone. */
    private static int keeps() {
        int bucket = bucketOf(1, 1);
        return bucket < 333 || bucket >= 333 && bucket < 433 ? 1 : 0;
    }
}
