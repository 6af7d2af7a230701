/** Tests of the sentences of the document's sections 2 and 3 and of REFUSALS, each with the edges that it names. */
final class AnswersSentences extends Sentences {
    static void test() {
        in("2");
        nowAtFirst();
        firstThatFits();
        byOverride();
        byKilled();
        byNeed();
        byLayer();
        byKept();
        byRule();
        byFallback();
        numberOfOthers();
        askedInTruth();
        isKept();
        nothingElseIsKept();
        path();
        mostSteps();
        stepsByTimes();
        noSuchRule();
        personGoes();
        ruleGoes();
        in("3");
        nothingIsChanged();
        aDay();
        nowAndSteps();
        draws();
        shelves();
        rows();
        lowestBits();
        in("REFUSALS");
        nothingChanges();
        bad();
        other();
        nothing();
        stuck();
        full();
    }

    private static void nowAtFirst() {
        sentence("NOW is a TIME (0 at first).");
        Tried x = new Tried().does("feature(1)").due("status(5)", 0).due("step(0, 0, 0, 1, 0)", 1).refuses("step(-1, 0, 0, 1, 0)", BAD);
        x.due("pass(1)", 1).due("status(5)", 1).refuses("step(0, 0, 0, 1, 0)", BAD);
    }

    /** VARIANT, REASON and NUMBER for the person 1. */
    private static void dueAnswer(Tried x, int feature, int variant, int reason, int number) {
        x.due("would(" + feature + ", 1, 0)", variant).due("would(" + feature + ", 1, 1)", reason);
        x.due("would(" + feature + ", 1, 2)", number);
    }

    /** FEATURE 1 has all that may tell an ANSWER for person 1, whose BUCKET is 654 by its SALT, 772 by LAYER 1's. */
    private static Tried everything() {
        Tried x = persons(1).does("feature(3)", "feature(3)", "tell(1, 1, 1)", "tell(1, 2, 3)").rule(1, "*%0,333,0", 0);
        x.due("ask(1, 1)", 2).due("kept(1, 1)", 2).does("drop(1, 0)").rule(1, "*:1", 0);
        return x.does("layer(1, 1, 0, 771)", "needs(1, 0, 1)", "tell(1, 0, 1)", "override(1, 1, 3)");
    }

    private static void firstThatFits() {
        sentence("ANSWER and REASON, the first that fits:");
        Tried x = everything();
        dueAnswer(x, 1, 3, 1, NONE);
        dueAnswer(x.does("override(1, 1, -1)"), 1, 0, 2, NONE);
        dueAnswer(x.does("tell(1, 0, 0)"), 1, 0, 3, 0);
        dueAnswer(x.does("tell(0, 2, 1)"), 1, 0, 4, 1);
        dueAnswer(x.does("layer(1, 1, 0, 772)"), 1, 2, 5, NONE);
        dueAnswer(x.does("forget(1)"), 1, 1, 6, 0);
        dueAnswer(x.does("drop(1, 0)"), 1, 3, 7, NONE);
        // And the other way, each with nothing but those behind it.
        Tried y = persons(1).does("feature(3)", "feature(3)");
        dueAnswer(y, 1, 0, 7, NONE);
        dueAnswer(y.rule(1, "*:0", 0), 1, 0, 6, 0);
        dueAnswer(y.does("layer(1, 0, " + (bucketOf(100, 1) + 1) + ", 999)"), 1, 0, 4, 0);
        dueAnswer(y.does("layer(1, 0, " + bucketOf(100, 1) + ", 999)"), 1, 0, 6, 0);
        dueAnswer(y.does("needs(1, 0, 0)"), 1, 0, 6, 0);
        dueAnswer(y.does("tell(0, 2, 1)"), 1, 0, 3, 0);
        dueAnswer(y.does("tell(1, 0, 1)"), 1, 0, 2, NONE);
        dueAnswer(y.does("override(1, 1, 0)"), 1, 0, 1, NONE);
    }

    private static void byOverride() {
        sentence("1 OVERRIDE of the KEY: its VARIANT.");
        for (int variant = 0; variant <= 3; variant++) {
            Tried x = persons(2).does("feature(3)", "tell(0, 2, 2)", "override(0, 1, " + variant + ")");
            dueAnswer(x, 0, variant, 1, NONE);
            x.due("would(0, 2, 0)", 2).due("would(0, 2, 1)", 7).due("by(0, 1)", 1);
            x.does("override(0, 1, -1)");
            dueAnswer(x, 0, 2, 7, NONE);
        }
    }

    private static void byKilled() {
        sentence("2 KILLED: 0.");
        Tried x = persons(1).does("feature(3)", "tell(0, 2, 3)", "tell(0, 0, 1)");
        dueAnswer(x, 0, 0, 2, NONE);
        dueAnswer(x.does("tell(0, 0, 0)"), 0, 3, 7, NONE);
    }

    private static void byNeed() {
        sentence("3 a NEED, the first in order whose FEATURE's ANSWER for the PERSON isn't its VARIANT: 0 (the REASON's NUMBER: the "
            + "FEATURE needed).");
        Tried x = persons(2);
        for (int f = 0; f < 12; f++) {
            x.does("feature(3)", "tell(" + f + ", 2, 2)");
        }
        x.does("needs(0, 11, 2)", "needs(0, 5, 2)", "needs(0, 3, 2)");
        dueAnswer(x, 0, 2, 7, NONE);
        x.does("override(3, 1, 0)");
        dueAnswer(x, 0, 0, 3, 3);
        x.due("would(0, 2, 1)", 7);
        x.does("override(5, 1, 3)");
        dueAnswer(x, 0, 0, 3, 5);
        x.does("tell(11, 0, 1)");
        dueAnswer(x, 0, 0, 3, 11);
        x.due("would(0, 2, 2)", 11);
        // OFF may be what is needed.
        x.does("free(0)", "needs(0, 11, 0)");
        dueAnswer(x, 0, 2, 7, NONE);
        x.does("tell(11, 0, 0)");
        dueAnswer(x, 0, 0, 3, 11);
        // One FEATURE needed twice, of two VARIANTS: never both.
        x.does("free(0)", "needs(0, 11, 2)", "needs(0, 11, 1)");
        dueAnswer(x, 0, 0, 3, 11);
    }

    private static void byLayer() {
        sentence("4 it has a LAYER, and the BUCKET by the LAYER's SALT isn't in its RANGE: 0 (the LAYER).");
        for (int layer = 0; layer <= 3; layer++) {
            int bucket = bucketOf(100 + layer, 1);
            Tried x = persons(1).does("feature(1)", "tell(0, 2, 1)");
            int[][] ranges = {{bucket, bucket}, {0, bucket}, {bucket, 999}, {0, 999}};
            for (int[] r : ranges) {
                dueAnswer(x.does("layer(0, " + layer + ", " + r[0] + ", " + r[1] + ")"), 0, 1, 7, NONE);
            }
            int[][] outs = {{0, bucket - 1}, {bucket + 1, 999}, {bucket - 1, bucket - 1}, {bucket + 1, bucket + 1}};
            for (int[] r : outs) {
                dueAnswer(x.does("layer(0, " + layer + ", " + r[0] + ", " + r[1] + ")"), 0, 0, 4, layer);
            }
            dueAnswer(x.does("layer(0, -1, 0, 0)"), 0, 1, 7, NONE);
        }
    }

    private static void byKept() {
        sentence("5 an ANSWER is KEPT for it: that.");
        Tried x = persons(2).does("feature(3)", "feature(3)", "tell(0, 1, 1)").rule(0, "*%333,333,333", 0).rule(1, "*%333,333,333", 0);
        x.due("ask(0, 1)", 1);
        dueAnswer(x, 0, 1, 5, NONE);
        x.due("would(0, 2, 1)", 6).due("would(1, 1, 1)", 6);
        // It stays whatever becomes of the RULE, and of STICKY.
        x.does("part(0, 0, 1, 0)");
        dueAnswer(x, 0, 1, 5, NONE);
        x.does("drop(0, 0)", "tell(0, 1, 0)");
        dueAnswer(x, 0, 1, 5, NONE);
        dueAnswer(x.does("forget(0)"), 0, 0, 7, NONE);
    }

    private static void byRule() {
        sentence("6 the first RULE whose CONDITION is so: its ANSWER (the RULE).");
        Tried x = persons(1).does("feature(3)", "tell(0, 2, 3)");
        for (int i = 0; i < 5; i++) {
            x.rule(0, "#2-2:1", i);
        }
        dueAnswer(x, 0, 3, 7, NONE);
        dueAnswer(x.rule(0, "#1-1:2", 5), 0, 2, 6, 5);
        x.does("drop(0, 0)");
        dueAnswer(x, 0, 2, 6, 4);
        dueAnswer(x.rule(0, "*:1", 5), 0, 2, 6, 4);
        // A CONDITION that is so tells the ANSWER, be it 0.
        x.does("drop(0, 5)", "drop(0, 4)").rule(0, "*%0,0,0", 4).rule(0, "*:1", 5);
        dueAnswer(x, 0, 0, 6, 4);
    }

    private static void byFallback() {
        sentence("7 FALLBACK: that.");
        for (int variant = 0; variant <= 3; variant++) {
            Tried x = persons(1).does("feature(3)", "tell(0, 2, " + variant + ")");
            dueAnswer(x, 0, variant, 7, NONE);
            x.rule(0, "!*:1", 0);
            dueAnswer(x, 0, variant, 7, NONE);
        }
    }

    private static void numberOfOthers() {
        sentence("(NUMBER of others: NONE.)");
        Tried x = everything();
        x.due("path(1, 1, 0, 2)", NONE).due("would(1, 1, 2)", NONE);
        x.does("override(1, 1, -1)").due("would(1, 1, 2)", NONE).does("tell(1, 0, 0)").due("would(1, 1, 2)", 0);
        x.does("free(1)").due("would(1, 1, 2)", 1).does("layer(1, -1, 0, 0)").due("would(1, 1, 2)", NONE);
        x.does("forget(1)").due("would(1, 1, 2)", 0).does("drop(1, 0)").due("would(1, 1, 2)", NONE).due("status(12)", 0);
    }

    private static void askedInTruth() {
        sentence("ASKED in truth: the ANSWER; it is COUNTED for FEATURE and VARIANT;");
        Tried x = persons(2).does("feature(3)", "feature(3)");
        int[] counts = new int[4];
        for (int i = 0; i < 10; i++) {
            int variant = i * i % 4;
            x.does("tell(0, 2, " + variant + ")").due("ask(0, " + (1 + i % 2) + ")", variant);
            counts[variant]++;
            for (int v = 0; v <= 3; v++) {
                x.due("counted(0, " + v + ")", counts[v]).due("counted(1, " + v + ")", 0);
            }
            x.due("status(7)", i + 1);
        }
        x.due("ask(1, 1)", 0).due("counted(1, 0)", 1).due("status(7)", 11);
    }

    private static void isKept() {
        sentence("if the FEATURE is STICKY, the REASON 6, the RULE SHARED, and the ANSWER not 0: it is KEPT for FEATURE and KEY");
        // Person 1 has bucket 88 by the salt of feature 0.
        Tried x = persons(2).does("feature(3)", "tell(0, 1, 1)").rule(0, "*%89,0,0", 0);
        x.due("ask(0, 1)", 1).due("kept(0, 1)", 1).due("kept(0, 2)", NONE).due("featureOf(0, 9)", 1);
        x.does("forget(0)", "part(0, 0, 1, 88)").due("ask(0, 1)", 0).due("kept(0, 1)", NONE);
        x.does("part(0, 0, 1, 89)", "tell(0, 1, 0)").due("ask(0, 1)", 1).due("kept(0, 1)", NONE);
        x.does("tell(0, 1, 1)", "override(0, 1, 2)").due("ask(0, 1)", 2).due("kept(0, 1)", NONE);
        x.does("override(0, 1, -1)", "drop(0, 0)", "tell(0, 2, 1)").due("ask(0, 1)", 1).due("kept(0, 1)", NONE);
        x.rule(0, "*:1", 0).due("ask(0, 1)", 1).due("kept(0, 1)", NONE);
        x.does("drop(0, 0)").rule(0, "#2-9%333,333,333", 0).due("ask(0, 1)", 1).due("kept(0, 1)", NONE);
        x.rule(0, "*%333,0,0", 1).due("ask(0, 1)", 1).due("kept(0, 1)", 1);
        // What is KEPT is not KEPT anew: its REASON is 5.
        x.does("drop(0, 1)").rule(0, "*:3", 1).due("ask(0, 1)", 1).due("kept(0, 1)", 1).due("status(6)", 1);
        for (int variant = 1; variant <= 3; variant++) {
            int key = keyIn(1, 333 * variant - 1);
            Tried y = new Tried().does("feature(3)", "tell(0, 1, 1)", "person(" + key + ", 0)").rule(0, "*%333,333,333", 0);
            y.due("ask(0, " + key + ")", variant).due("kept(0, " + key + ")", variant);
        }
    }

    private static void nothingElseIsKept() {
        sentence("(that alone, nothing of what it needs).");
        Tried x = persons(1);
        for (int f = 0; f < 2; f++) {
            x.does("feature(3)", "tell(" + f + ", 1, 1)").rule(f, "*%333,333,333", 0);
        }
        int needed = bucketOf(2, 1) / 333 + 1;
        x.does("needs(0, 1, " + needed + ")").due("ask(0, 1)", 1).due("kept(0, 1)", 1).due("kept(1, 1)", NONE);
        x.due("status(6)", 1).due("status(7)", 1).due("counted(1, " + needed + ")", 0);
    }

    private static void path() {
        sentence("THE PATH of an ANSWER: of each NEED that was looked at, in their order, its PATH (nothing that is there already), then "
            + "itself: FEATURE, REASON, NUMBER.");
        Tried x = persons(1);
        for (int f = 0; f < 12; f++) {
            x.does("feature(1)");
        }
        x.due("would(0, 1, 3)", 1).due("path(0, 1, 0, 0)", 0).refuses("path(0, 1, 1, 0)", BAD).refuses("path(0, 1, -1, 0)", BAD);
        // Each needs the one behind it and the last one: a path of twelve.
        for (int f = 0; f < 11; f++) {
            x.does("needs(" + f + ", " + (f + 1) + ", 0)", "needs(" + f + ", 11, 0)");
        }
        x.due("would(0, 1, 3)", 12).refuses("path(0, 1, 12, 0)", BAD);
        for (int i = 0; i < 12; i++) {
            x.due("path(0, 1, " + i + ", 0)", 11 - i).due("path(0, 1, " + i + ", 1)", 7).due("path(0, 1, " + i + ", 2)", NONE);
        }
        // A NEED behind the first that isn't so is not looked at.
        x.does("tell(5, 2, 1)").due("would(4, 1, 3)", 8).due("path(4, 1, 7, 1)", 3).due("path(4, 1, 7, 2)", 5);
        x.does("free(5)").due("would(4, 1, 3)", 2).due("path(4, 1, 0, 0)", 5).due("path(4, 1, 1, 0)", 4);
        x.due("path(4, 1, 0, 3)", 1).due("path(4, 1, 1, 3)", 0).refuses("path(4, 1, 2, 0)", BAD);
        // With an OVERRIDE, and KILLED, none is.
        x.does("tell(4, 0, 1)").due("would(4, 1, 3)", 1).does("tell(4, 0, 0)", "override(4, 1, 0)").due("would(4, 1, 3)", 1);
        Tried y = persons(1).does("feature(1)", "feature(1)", "feature(1)", "needs(0, 2, 0)", "needs(0, 1, 0)", "layer(0, 0, 0, 0)");
        y.due("would(0, 1, 1)", 4).due("would(0, 1, 3)", 3).due("path(0, 1, 0, 0)", 2).due("path(0, 1, 1, 0)", 1);
        y.due("path(0, 1, 2, 0)", 0).due("path(0, 1, 2, 2)", 0);
    }

    private static void mostSteps() {
        sentence("STEPS (24 at most): a TIME, a FEATURE, a RULE, a VARIANT, a PART.");
        Tried x = new Tried().does("feature(3)", "feature(3)");
        x.due("status(4)", 0).rule(0, "*%0,0,0", 0).rule(1, "*%0,0,0", 0).rule(1, "*%0,0,0", 1);
        x.due("step(1, 0, 0, 1, 11)", 1).due("step(2, 1, 0, 2, 22)", 2).due("step(3, 1, 1, 3, 33)", 3);
        for (int i = 4; i <= 24; i++) {
            x.due("step(5, 0, 0, 1, " + i + ")", i);
        }
        x.refuses("step(5, 0, 0, 1, 1)", FULL).due("status(4)", 24);
        x.due("pass(1)", 1).due("status(4)", 23).due("step(5, 0, 0, 1, 25)", 24).refuses("step(5, 0, 0, 1, 1)", FULL);
        x.due("part(0, 0, 1, 11)", 11).due("pass(1)", 1).due("part(1, 0, 2, 22)", 22).due("pass(1)", 1);
        x.dueSpelling(0, 0, "*%11,0,0").dueSpelling(1, 0, "*%0,22,0").dueSpelling(1, 1, "*%0,0,33");
        x.due("pass(1)", 0).due("pass(1)", 22).dueSpelling(0, 0, "*%25,0,0").due("status(4)", 0);
    }

    private static void stepsByTimes() {
        sentence("When NOW becomes a TIME or later, STEPS of then or ahead of then are DONE, by TIMES, of several as they were told, and "
            + "are no more:");
        Tried x = new Tried().does("feature(1)").rule(0, "*%0,0,0", 0);
        x.does("step(10, 0, 0, 1, 3)", "step(9, 0, 0, 1, 2)", "step(10, 0, 0, 1, 4)", "step(8, 0, 0, 1, 1)", "step(11, 0, 0, 1, 5)");
        x.due("pass(7)", 0).dueSpelling(0, 0, "*%0,0,0").due("pass(1)", 1).dueSpelling(0, 0, "*%1,0,0");
        x.due("pass(2)", 3).dueSpelling(0, 0, "*%4,0,0").due("status(4)", 1);
        x.does("part(0, 0, 1, 100)").due("pass(0)", 0).dueSpelling(0, 0, "*%100,0,0");
        x.due("pass(999)", 1).dueSpelling(0, 0, "*%5,0,0").due("status(4)", 0).due("pass(999)", 0);
        // Told from the last to the first, all at once.
        Tried y = new Tried().does("feature(1)").rule(0, "*%0,0,0", 0);
        for (int i = 0; i < 24; i++) {
            y.does("step(" + (50 - i) + ", 0, 0, 1, " + i + ")");
        }
        y.due("pass(49)", 23).dueSpelling(0, 0, "*%1,0,0").due("pass(1)", 1).dueSpelling(0, 0, "*%0,0,0");
    }

    private static void noSuchRule() {
        sentence("if there is such a RULE then, and it is SHARED, its PART of the VARIANT is that.");
        Tried x = new Tried().does("feature(2)").rule(0, "*:2", 0);
        x.does("step(1, 0, 0, 1, 9)", "step(1, 0, 1, 1, 9)", "step(1, 0, 5, 2, 9)", "step(2, 0, 1, 2, 333)", "step(2, 0, 1, 1, 0)");
        x.due("pass(1)", 3).dueSpelling(0, 0, "*:2");
        // The rule comes ahead of the step.
        x.rule(0, "*%1,0,0", 1).due("pass(1)", 2).dueSpelling(0, 1, "*%0,333,0").dueSpelling(0, 0, "*:2");
    }

    private static void personGoes() {
        sentence("A PERSON that goes takes OVERRIDES of its KEY and what is KEPT for it along.");
        for (int gone = 1; gone <= 3; gone++) {
            Tried x = persons(3);
            for (int f = 0; f < 12; f++) {
                x.does("feature(3)");
            }
            x.does("tell(0, 1, 1)", "tell(11, 1, 1)").rule(0, "*%333,333,333", 0).rule(11, "*%333,333,333", 0);
            for (int key = 1; key <= 3; key++) {
                x.does("ask(0, " + key + ")", "ask(11, " + key + ")", "override(1, " + key + ", " + key + ")", "override(11, " + key + ", 1)");
            }
            x.due("status(6)", 6).due("gone(" + gone + ")", 2).due("status(6)", 4);
            for (int f : new int[] {1, 11}) {
                x.due("featureOf(" + f + ", 6)", 2);
            }
            x.due("featureOf(0, 9)", 2).due("featureOf(11, 9)", 2);
            for (int key = 1; key <= 3; key++) {
                if (key != gone) {
                    x.due("kept(0, " + key + ")", bucketOf(1, key) / 333 + 1).due("would(1, " + key + ", 0)", key);
                }
            }
            x.due("person(" + gone + ", 0)", 3).due("kept(0, " + gone + ")", NONE).due("kept(11, " + gone + ")", NONE);
            x.due("would(1, " + gone + ", 1)", 7).due("would(11, " + gone + ", 1)", 6);
        }
        oneOfTwentyFourGoes();
    }

    /** With as many as there may be: the last one's come nearer, and stay with it alone. */
    private static void oneOfTwentyFourGoes() {
        int last = keyIn(1, 700);
        Tried x = persons(23).does("person(" + last + ", 0)", "feature(3)", "feature(3)", "tell(0, 1, 1)").rule(0, "*%333,333,333", 0);
        x.due("ask(0, " + last + ")", 3).does("override(1, " + last + ", 2)", "override(1, 23, 1)", "gone(5)").due("kept(0, " + last + ")", 3);
        x.due("by(0, 5)", 1 << 22).due("by(1, 1)", 3 << 21).due("person(5, 0)", 24).due("kept(0, 5)", NONE).due("would(1, 5, 1)", 7);
        x.due("would(1, " + last + ", 0)", 2).due("would(1, 23, 0)", 1).due("featureOf(1, 6)", 2).due("status(6)", 1);
        x.due("gone(" + last + ")", 23).due("person(" + last + ", 0)", 24).due("kept(0, " + last + ")", NONE).due("by(1, 1)", 1 << 21);
    }

    private static void ruleGoes() {
        sentence("A RULE that goes lets those behind it come nearer by one (STEPS stay as told).");
        for (int gone = 0; gone < 6; gone++) {
            Tried x = new Tried().does("feature(1)");
            for (int i = 0; i < 6; i++) {
                x.rule(0, "#" + i + "-" + i + "%" + i + ",0,0", i);
            }
            x.does("step(1, 0, 2, 1, 333)").due("drop(0, " + gone + ")", 5).refuses("drop(0, 5)", BAD);
            for (int i = 0; i < 5; i++) {
                int was = i < gone ? i : i + 1;
                x.dueSpelling(0, i, "#" + was + "-" + was + "%" + was + ",0,0");
            }
            int third = gone > 2 ? 2 : 3;
            x.due("status(4)", 1).due("pass(1)", 1).dueSpelling(0, 2, "#" + third + "-" + third + "%333,0,0");
        }
    }

    /** Something of everything: three persons, three features, and in each shelf of 0 to 4 something else. */
    static Tried furnished() {
        Tried x = new Tried().does("person(1, 0)", "person(2, 1234)", "person(3, 9999)", "feature(3)", "feature(1)", "feature(2)");
        x.does("tell(0, 1, 1)").rule(0, "a=0&!b=1%333,100,0", 0).rule(0, "*:1", 1).rule(2, "#1-2%9,8,0", 0);
        x.does("needs(1, 0, 1)", "override(1, 2, 1)", "layer(1, 1, 5, 500)", "step(7, 0, 0, 2, 200)", "step(9, 2, 0, 1, 44)");
        x.does("row(0, 2, 5)", "set(0, 0, 1)", "set(0, 1, 1)", "set(0, 2, 2)", "row(1, 3, 40)", "show(2, 0, 0, 0)", "show(3, 0, 0, 2)");
        x.does("row(4, 2, 3)", "ask(0, 1)", "pass(2)", "seed(99)", "image()", "person(4, 4444)", "ask(0, 4)", "feed(97)", "feed(60)");
        return x;
    }

    private static void nothingIsChanged() {
        sentence("WHAT IS ASKED (nothing is changed)");
        String[] calls = {"would(0, 2, 0)", "would(1, 1, 3)", "path(1, 1, 0, 0)", "path(1, 1, 1, 3)", "later(0, 1, 2)", "later(2, 1, 10001)",
            "reach(0, 1)", "counted(0, 1)", "by(1, 3)", "so(0, 0)", "grow(0, 0, 1, 4)", "grow(2, 0, 2, 0)", "grow(2, 0, 1, 24)",
            "moved(0, 0, 1, 0)", "moved(2, 0, 2, 333)", "shakes(0)", "shakes(1)", "overlap(0, 1)", "needed(1)", "kept(0, 1)", "kept(0, 2)",
            "spelled(0, 0, 0)", "spelled(2, 0, 99)", "spelled(2, 0, -1)", "featureOf(1, 7)", "featureOf(0, 7)", "judge(0, 0, 1)",
            "judge(0, 0, 2)", "judge(0, 0, 0)", "element(0, 1)", "element(9, 9)", "holds(0)", "holds(-1)", "says(2, 7)", "says(3, 3)",
            "personOf(2)", "attributes(3)", "bucket(1, 999)", "status(9)", "status(11)", "status(-1)"};
        Tried x = furnished();
        for (String call : calls) {
            x.changesNothing(call);
        }
        x.does("tell(0, 0, 1)").changesNothing("shakes(0)");
    }

    private static int seed;

    private static int draw(int n) {
        seed = (int) (seed * 1103515245L + 12345L);
        return (int) (((seed & 0xffffffffL) >> 16) % n);
    }

    private static void aDay() {
        sentence("IN TRUTH a DAY by draws: the FEATURE of a DRAW below how many there are is ASKED for the PERSON of a DRAW below how many "
            + "there are (in their order);");
        int[][] sizes = {{1, 1}, {2, 3}, {3, 2}, {12, 24}, {1, 24}, {12, 1}};
        for (int[] size : sizes) {
            Tried x = new Tried();
            for (int f = 0; f < size[0]; f++) {
                x.does("feature(1)").rule(f, "d>" + f % 10 + ":1", 0);
            }
            for (int i = 0; i < size[1]; i++) {
                x.does("person(" + (500 - i) + ", " + i + ")");
            }
            seed = 1;
            int on = 0;
            int[][] counts = new int[size[0]][2];
            for (int day = 0; day < 60; day++) {
                int f = draw(size[0]);
                int is = draw(size[1]) % 10 > f % 10 ? 1 : 0;
                counts[f][is]++;
                on += is;
                draw(4);
            }
            x.due("days(60)", on).due("status(7)", 60).due("status(9)", seed);
            for (int f = 0; f < size[0]; f++) {
                x.due("counted(" + f + ", 0)", counts[f][0]).due("counted(" + f + ", 1)", counts[f][1]);
            }
        }
        Tried sticky = persons(1).does("feature(3)", "tell(0, 1, 1)").rule(0, "*%333,333,333", 0);
        sticky.due("days(1)", 1).due("kept(0, 1)", 1);
    }

    /** A seed from 1 on with which the third draw, of a day's, is that of 4. */
    private static int seedOf(int third) {
        for (int start = 1;; start++) {
            seed = start;
            draw(1);
            draw(1);
            if (draw(4) == third) {
                return start;
            }
        }
    }

    private static void nowAndSteps() {
        sentence("then NOW is a DRAW below 4 more, and STEPS are DONE (also if it is 0 more; as by pass()).");
        for (int more = 0; more < 4; more++) {
            Tried x = persons(1).does("feature(1)").rule(0, "*%0,0,0", 0);
            for (int time = 4; time >= 0; time--) {
                x.does("step(" + time + ", 0, 0, 1, " + (100 + time) + ")");
            }
            // The person's bucket is 88: the step of time 0 makes it so, but only behind the first day's asking.
            x.does("seed(" + seedOf(more) + ")").due("days(1)", 0).due("status(5)", more).due("status(4)", 4 - more);
            x.dueSpelling(0, 0, "*%" + (100 + more) + ",0,0").due("would(0, 1, 0)", 1).due("pass(0)", 0);
        }
    }

    private static void draws() {
        sentence("A DRAW below n: SEED (1 at first) becomes SEED times 1103515245, and 12345 (an int, wrapping); its upper 16 bits, no sign, "
            + "modulo n.");
        new Tried().due("status(9)", 1).due("seed(5)", 1);
        int[] seeds = {0, 1, -1, 2, 3, 7, 12345, -12345, HIGH, LOW, HIGH - 1, LOW + 1, 65536, -65536, 1 << 30, 0x55555555, 0xaaaaaaaa};
        for (int first : seeds) {
            Tried x = persons(7).does("feature(1)", "feature(1)", "feature(1)", "feature(1)", "feature(1)", "seed(" + first + ")");
            for (int f = 0; f < 5; f++) {
                x.rule(f, "#" + (f + 1) + "-" + (f + 3) + ":1", 0);
            }
            seed = first;
            int now = 0;
            for (int day = 0; day < 40; day++) {
                int f = draw(5);
                int key = draw(7) + 1;
                now += draw(4);
                x.due("days(1)", key >= f + 1 && key <= f + 3 ? 1 : 0).due("status(9)", seed).due("status(5)", now);
            }
        }
        // The draws are by the upper bits, without a sign: also of a SEED below 0.
        Tried x = persons(1).does("feature(1)", "seed(" + LOW + ")").due("days(1)", 0);
        seed = LOW;
        draw(1);
        draw(1);
        int third = draw(4);
        x.due("status(9)", seed).due("status(5)", third);
    }

    private static void shelves() {
        sentence("SHELVES 0 to 7 hold NOTHING (at first), a ROW, or a CONDITION (that stays as it is).");
        Tried x = new Tried();
        for (int s = 0; s <= 7; s++) {
            x.due("holds(" + s + ")", NONE).due("status(10)", s).due("row(" + s + ", 0, 1)", 1).due("holds(" + s + ")", 0);
        }
        x.refuses("row(8, 0, 1)", BAD).refuses("row(-1, 0, 1)", BAD).due("holds(8)", NONE).due("holds(-1)", NONE);
        Tried y = persons(3).does("feature(1)").rule(0, "#1-2|!a=0:1", 0).does("show(0, 0, 0, 0)", "show(7, 0, 0, 1)", "image()");
        y.due("holds(0)", 18).due("holds(7)", 16).due("says(0, 0)", 2);
        y.does("drop(0, 0)").due("holds(0)", 18).due("says(0, 0)", 2).due("says(0, 2)", 3).due("says(7, 6)", 2);
        y.rule(0, "*:0", 0).due("says(0, 0)", 2).due("says(0, 8)", 0).due("holds(7)", 16);
        y.does("back()").due("says(0, 0)", 2).does("person(9, 1000)").due("says(0, 0)", 3).does("gone(1)").due("says(0, 0)", 2);
    }

    private static void rows() {
        sentence("A ROW has a SORT (0 bytes, 1 shorts, 2 ints, 3 longs, 4 booleans) and 0 to 40 elements (0, or not so, at first);");
        for (int sort = 0; sort <= 4; sort++) {
            Tried x = new Tried().due("row(3, " + sort + ", 40)", 1).due("holds(3)", sort);
            for (int i = 0; i < 40; i++) {
                x.due("element(3, " + i + ")", 0).due("set(3, " + i + ", 1)", 1).due("element(3, " + i + ")", 1);
            }
            x.refuses("set(3, 40, 1)", BAD).refuses("set(3, -1, 1)", BAD).due("element(3, 40)", 0);
            x.due("row(3, " + sort + ", 40)", 1).due("element(3, 0)", 0).due("element(3, 39)", 0);
            x.due("row(3, " + sort + ", 0)", 1).due("holds(3)", sort).refuses("set(3, 0, 1)", BAD).due("element(3, 0)", 0);
            x.due("row(3, " + sort + ", 1)", 1).due("set(3, 0, 1)", 1).refuses("set(3, 1, 1)", BAD);
            x.refuses("row(3, " + sort + ", 41)", BAD).refuses("row(3, " + sort + ", -1)", BAD);
        }
        new Tried().refuses("row(3, 5, 1)", BAD).refuses("row(3, -1, 1)", BAD);
    }

    private static void lowestBits() {
        sentence("what is put in keeps its lowest bits (of booleans: whether it is not 0); told they are numbers (1, 0).");
        long[] values = {0, 1, -1, 2, 127, 128, 129, 255, 256, 257, -128, -129, 32767, 32768, 65535, 65536, -32768, -32769, HIGH, HIGH + 1L,
            LOW, LOW - 1L, 0xffffffffL, 0x100000000L, 0x1ffffffffL, Long.MAX_VALUE, Long.MIN_VALUE, 0x7edcba9876543280L};
        Tried x = new Tried();
        for (int sort = 0; sort <= 4; sort++) {
            x.does("row(" + sort + ", " + sort + ", 3)");
        }
        for (long v : values) {
            long[] kept = {byteOf(v, 8), byteOf(v, 16), byteOf(v, 32), v, v == 0 ? 0 : 1};
            for (int sort = 0; sort <= 4; sort++) {
                x.due("set(" + sort + ", 1, " + v + ")", 1).due("element(" + sort + ", 1)", kept[sort]);
            }
        }
        for (int sort = 0; sort <= 4; sort++) {
            x.due("element(" + sort + ", 0)", 0).due("element(" + sort + ", 2)", 0);
        }
        x.does("set(4, 1, 7)", "row(5, 4, 1)").due("copy(4, 5, 1, 0, 1)", 1).due("element(5, 0)", 1);
    }

    /** The lowest bits of a number, the first of them its sign. */
    private static long byteOf(long v, int bits) {
        long low = v & (1L << bits) - 1;
        return low >> bits - 1 == 1 ? low - (1L << bits) : low;
    }

    private static void nothingChanges() {
        sentence("REFUSALS (the call answers the number; nothing changes but how many there were; the first that fits as each line has "
            + "them):");
        Tried x = furnished();
        String[] bad = {"row(8, 0, 1)", "set(0, 5, 1)", "copy(0, 4, 3, 0, 3)", "show(0, 3, 0, 0)", "says(2, 9)", "feed(256)", "person(5, 10000)",
            "gone(5)", "personOf(4)", "attributes(5)", "bucket(201, 1)", "feature(0)", "tell(0, 3, 0)", "drop(0, 2)", "part(0, 0, 1, 334)",
            "needs(0, 2, 3)", "free(3)", "override(1, 1, 2)", "layer(0, 4, 0, 0)", "step(1, 0, 0, 1, 0)", "pass(1000)", "ask(0, 5)",
            "would(0, 1, 4)", "path(0, 1, 1, 0)", "later(0, 1, 1)", "reach(0, 4)", "counted(0, 4)", "by(0, 8)", "so(0, 2)", "grow(0, 0, 1, 25)",
            "moved(0, 0, 1, 334)", "shakes(3)", "overlap(0, 3)", "needed(3)", "kept(0, 5)", "forget(3)", "spelled(0, 2, 0)", "featureOf(0, 10)",
            "judge(0, 0, 3)", "days(61)"};
        for (String call : bad) {
            x.refuses(call, BAD);
        }
        // Of what fits, the first is told.
        x.refuses("set(8, 99, 1)", BAD).refuses("set(2, 99, 1)", OTHER).refuses("set(5, 99, 1)", NOTHING);
        x.refuses("copy(2, 8, 99, 0, 0)", BAD).refuses("copy(2, 5, 99, 0, 0)", OTHER).refuses("copy(5, 0, 99, 0, 0)", NOTHING);
        x.refuses("copy(0, 1, 99, 0, 0)", OTHER).refuses("judge(3, 2, 21)", BAD).refuses("judge(0, 2, 20)", OTHER);
        x.refuses("judge(0, 5, 20)", NOTHING).refuses("part(0, 1, 1, 334)", BAD).refuses("part(0, 1, 1, 333)", STUCK);
        x.refuses("says(5, 9)", BAD).refuses("says(5, 7)", NOTHING).refuses("needs(0, 1, 2)", BAD).refuses("needs(0, 1, 1)", STUCK);
        x.refusesRule(3, "*;1", BAD).refusesRule(0, "|", -502);
    }

    private static void bad() {
        sentence("-32 BAD a number that may not be, nothing of that number (also no PERSON of that KEY).");
        String[] ofPersons = {"gone(%d)", "attributes(%d)", "override(0, %d, 1)", "override(0, %d, -1)", "ask(0, %d)", "would(0, %d, 0)",
            "path(0, %d, 0, 0)", "later(0, %d, 5)", "kept(0, %d)"};
        Tried x = furnished();
        for (String call : ofPersons) {
            for (int key : new int[] {5, 0, -1, 999999, 1000000, LOW, HIGH}) {
                x.refuses(call.formatted(key), BAD);
            }
        }
        String[] ofFeatures = {"show(5, %d, 0, 0)", "tell(%d, 0, 1)", "drop(%d, 0)", "part(%d, 0, 1, 1)", "needs(%d, 0, 0)", "needs(0, %d, 0)",
            "free(%d)", "override(%d, 1, 1)", "layer(%d, 0, 1, 2)", "layer(%d, -1, 1, 2)", "step(9, %d, 0, 1, 1)", "ask(%d, 1)", "would(%d, 1, 0)",
            "path(%d, 1, 0, 0)", "later(%d, 1, 9)", "reach(%d, 0)", "counted(%d, 0)", "by(%d, 7)", "so(%d, 0)", "grow(%d, 0, 1, 1)",
            "moved(%d, 0, 1, 1)", "shakes(%d)", "overlap(%d, 0)", "overlap(0, %d)", "needed(%d)", "kept(%d, 1)", "forget(%d)",
            "spelled(%d, 0, 0)", "featureOf(%d, 0)", "judge(%d, 0, 1)"};
        for (String call : ofFeatures) {
            for (int feature : new int[] {3, -2, 11, 12, LOW, HIGH}) {
                x.refuses(call.formatted(feature), BAD);
            }
            if (!call.startsWith("show")) {
                x.refuses(call.formatted(NONE), BAD);
            }
        }
        String[] ofRules = {"show(5, 0, %d, 0)", "drop(0, %d)", "part(0, %d, 1, 1)", "so(0, %d)", "grow(0, %d, 1, 1)", "moved(0, %d, 1, 1)",
            "spelled(0, %d, 0)"};
        for (String call : ofRules) {
            for (int rule : new int[] {2, -1, 5, 6, LOW, HIGH}) {
                x.refuses(call.formatted(rule), BAD);
            }
        }
        String[] ofVariants = {"part(2, 0, %d, 1)", "needs(0, 2, %d)", "override(2, 1, %d)", "step(9, 2, 0, %d, 1)", "reach(2, %d)",
            "counted(2, %d)", "grow(2, 0, %d, 1)", "moved(2, 0, %d, 1)", "tell(2, 2, %d)"};
        for (String call : ofVariants) {
            for (int variant : new int[] {3, -2, LOW, HIGH}) {
                x.refuses(call.formatted(variant), BAD);
            }
        }
        String[] ofShelves = {"row(%d, 0, 1)", "set(%d, 0, 1)", "copy(%d, 0, 0, 0, 1)", "copy(0, %d, 0, 0, 1)", "show(%d, 0, 0, 0)",
            "show(%d, -1, 0, 0)", "says(%d, 0)", "judge(0, %d, 0)"};
        for (String call : ofShelves) {
            for (int s : new int[] {8, -1, LOW, HIGH}) {
                x.refuses(call.formatted(s), BAD);
            }
        }
    }

    private static void other() {
        sentence("-33 OTHER: a SHELF that holds another thing than is wanted.");
        Tried x = furnished();
        x.refuses("set(2, 0, 1)", OTHER).refuses("copy(2, 0, 0, 0, 1)", OTHER).refuses("copy(0, 2, 0, 0, 1)", OTHER);
        x.refuses("copy(0, 1, 0, 0, 1)", OTHER).refuses("says(0, 0)", OTHER).refuses("says(2, 8)", OTHER).refuses("judge(0, 2, 0)", OTHER);
    }

    private static void nothing() {
        sentence("-34 NOTHING: a SHELF that holds NOTHING.");
        Tried x = furnished();
        x.refuses("set(5, 0, 1)", NOTHING).refuses("copy(5, 0, 0, 0, 1)", NOTHING).refuses("copy(0, 5, 0, 0, 1)", NOTHING);
        x.refuses("copy(5, 6, 0, 0, 1)", NOTHING).refuses("says(5, 0)", NOTHING).refuses("judge(0, 5, 0)", NOTHING);
    }

    private static void stuck() {
        sentence("-35 STUCK: it can't be as things stand.");
        Tried x = furnished();
        x.refuses("part(0, 1, 1, 1)", STUCK).refuses("needs(0, 1, 0)", STUCK).refuses("needs(2, 2, 0)", STUCK);
        x.refuses("layer(0, 1, 500, 501)", STUCK).refuses("grow(0, 1, 1, 1)", STUCK).refuses("moved(0, 1, 1, 1)", STUCK);
        x.does("set(0, 2, 5)").refuses("judge(0, 0, 2)", STUCK);
        new Tried().refuses("back()", STUCK).refuses("days(1)", STUCK).does("feature(1)").refuses("days(1)", STUCK);
        persons(1).refuses("days(1)", STUCK);
    }

    private static void full() {
        sentence("-36 FULL.");
        persons(24).refuses("person(25, 0)", FULL);
        Tried x = persons(9);
        for (int f = 0; f < 12; f++) {
            x.does("feature(1)");
        }
        x.refuses("feature(1)", FULL).does("needs(0, 1, 0)", "needs(0, 2, 0)", "needs(0, 3, 0)").refuses("needs(0, 4, 0)", FULL);
        for (int i = 0; i < 6; i++) {
            x.rule(0, "*:1", i);
        }
        x.refusesRule(0, "*:1", FULL);
        for (int key = 1; key <= 8; key++) {
            x.does("override(0, " + key + ", 1)");
        }
        x.refuses("override(0, 9, 1)", FULL);
        for (int i = 0; i < 24; i++) {
            x.does("step(1, 0, 0, 1, 1)");
        }
        x.refuses("step(1, 0, 0, 1, 1)", FULL).feed("*".repeat(250)).refuses("feed(42)", FULL);
    }
}
