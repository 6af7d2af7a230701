/** Tests of the sentences of the promises 1 to 26, each with the edges that it names. */
final class PromiseSentences extends Sentences {
    static void test() {
        newObject();
        row();
        set();
        copy();
        element();
        holds();
        show();
        says();
        feed();
        wipe();
        person();
        gone();
        personOf();
        attributes();
        bucket();
        feature();
        tell();
        rule();
        drop();
        part();
        needs();
        free();
        override();
        layer();
        step();
        pass();
    }

    private static void newObject() {
        promise(1);
        sentence("No PERSONS, no FEATURES; SHELVES hold NOTHING; THE TAPE is empty.");
        Tried x = new Tried().due("status(0)", 0).due("status(1)", 0).due("status(8)", 0).due("status(10)", 0).due("wipe()", 0);
        for (int s = 0; s <= 7; s++) {
            x.due("holds(" + s + ")", NONE).due("element(" + s + ", 0)", 0);
        }
        for (int refusal = 12; refusal <= 16; refusal++) {
            x.due("status(" + refusal + ")", 0);
        }
        x.refuses("personOf(0)", BAD).refuses("featureOf(0, 0)", BAD).refuses("back()", STUCK).refusesRule(0, "*:1", BAD);
        x.due("status(2)", 0).due("status(3)", 0).due("status(4)", 0).due("status(5)", 0).due("status(6)", 0).due("status(7)", 0);
        x.due("status(9)", 1);
        answered("NONE", FeatureDesk.NONE, -1);
        // What one object is told is nothing to another one.
        new Tried().does("person(1, 1)", "feature(1)", "feed(1)", "row(0, 0, 1)", "image()");
        new Tried().due("status(0)", 0).due("status(1)", 0).due("status(8)", 0).due("status(10)", 0).due("back()", STUCK);
    }

    private static void row() {
        promise(2);
        sentence("SHELF s holds a new ROW: 1.");
        Tried x = furnished();
        for (int s = 0; s <= 7; s++) {
            x.due("row(" + s + ", 2, 40)", 1).due("holds(" + s + ")", 2).due("element(" + s + ", 0)", 0).due("element(" + s + ", 39)", 0);
            x.due("set(" + s + ", 39, 9)", 1).due("row(" + s + ", " + s % 5 + ", 0)", 1).due("holds(" + s + ")", s % 5);
            x.refuses("set(" + s + ", 0, 9)", BAD).due("row(" + s + ", 3, 40)", 1).due("element(" + s + ", 39)", 0);
        }
        x.due("status(10)", 8);
        sentence("BAD.");
        Tried y = furnished();
        int[][] bad = {{-1, 0, 1}, {8, 0, 1}, {0, -1, 1}, {0, 5, 1}, {0, 0, -1}, {0, 0, 41}, {2, 5, 1}, {2, 0, 41}, {LOW, 0, 1}, {HIGH, 0, 1},
            {0, LOW, 1}, {0, HIGH, 1}, {0, 0, LOW}, {0, 0, HIGH}, {5, 10, 0}, {5, 0, 65536 * 4}};
        for (int[] b : bad) {
            y.refuses("row(" + b[0] + ", " + b[1] + ", " + b[2] + ")", BAD);
        }
    }

    private static void set() {
        promise(3);
        sentence("Element i of the ROW in SHELF s becomes v: 1.");
        Tried x = new Tried().does("row(0, 3, 40)", "row(7, 3, 1)");
        x.due("set(0, 0, " + Long.MIN_VALUE + ")", 1).due("set(0, 39, " + Long.MAX_VALUE + ")", 1).due("set(7, 0, -32)", 1);
        x.due("element(0, 0)", Long.MIN_VALUE).due("element(0, 39)", Long.MAX_VALUE).due("element(7, 0)", -32);
        x.due("element(0, 1)", 0).due("element(0, 38)", 0).due("set(0, 39, 0)", 1).due("element(0, 39)", 0);
        sentence("BAD SHELF; OTHER; NOTHING; BAD i.");
        Tried y = furnished();
        y.refuses("set(-1, 0, 1)", BAD).refuses("set(8, 0, 1)", BAD).refuses("set(2, 0, 1)", OTHER).refuses("set(2, -1, 1)", OTHER);
        y.refuses("set(7, 0, 1)", NOTHING).refuses("set(7, -1, 1)", NOTHING).refuses("set(0, 5, 1)", BAD).refuses("set(0, -1, 1)", BAD);
        y.refuses("set(1, 40, 1)", BAD).refuses("set(0, " + HIGH + ", 1)", BAD).refuses("set(0, " + LOW + ", 1)", BAD);
        y.does("row(0, 0, 0)").refuses("set(0, 0, 1)", BAD).does("show(0, -1, 0, 0)").refuses("set(0, 0, 1)", NOTHING);
        y.does("row(2, 0, 1)").due("set(2, 0, 1)", 1);
    }

    private static Tried twoRows() {
        Tried x = new Tried().does("row(0, 2, 5)", "row(7, 2, 40)", "row(1, 1, 5)", "feature(1)").rule(0, "*:1", 0).does("show(2, 0, 0, 0)");
        for (int i = 0; i < 5; i++) {
            x.does("set(0, " + i + ", " + (10 + i) + ")");
        }
        return x;
    }

    private static void dueElements(Tried x, int s, int from, int... want) {
        for (int i = 0; i < want.length; i++) {
            x.due("element(" + s + ", " + (from + i) + ")", want[i]);
        }
    }

    private static void copy() {
        promise(4);
        sentence("n elements of the ROW in SHELF p from place i on come to places j on of that in q (as they were): n.");
        dueElements(twoRows().due("copy(0, 7, 0, 35, 5)", 5), 7, 33, 0, 0, 10, 11, 12, 13, 14);
        dueElements(twoRows().due("copy(0, 7, 4, 0, 1)", 1), 7, 0, 14, 0);
        dueElements(twoRows().due("copy(0, 7, 1, 3, 2)", 2), 7, 2, 0, 11, 12, 0);
        dueElements(twoRows().due("copy(0, 0, 0, 1, 4)", 4), 0, 0, 10, 10, 11, 12, 13);
        dueElements(twoRows().due("copy(0, 0, 1, 0, 4)", 4), 0, 0, 11, 12, 13, 14, 14);
        dueElements(twoRows().due("copy(0, 0, 0, 0, 5)", 5), 0, 0, 10, 11, 12, 13, 14);
        dueElements(twoRows().due("copy(7, 0, 39, 4, 1)", 1), 0, 3, 13, 0);
        twoRows().due("copy(0, 7, 0, 0, 0)", 0).due("copy(0, 7, 4, 39, 0)", 0).due("copy(0, 7, 5, 40, 0)", 0).due("element(7, 0)", 0);
        sentence("BAD SHELVES; OTHER (also ROWS of two SORTS, if both hold something); NOTHING; BAD the others.");
        Tried x = twoRows();
        x.refuses("copy(-1, 0, 0, 0, 1)", BAD).refuses("copy(8, 0, 0, 0, 1)", BAD).refuses("copy(0, -1, 0, 0, 1)", BAD);
        x.refuses("copy(0, 8, 0, 0, 1)", BAD).refuses("copy(2, 8, 0, 0, 1)", BAD).refuses("copy(8, 5, 0, 0, 1)", BAD);
        x.refuses("copy(2, 0, 9, 0, 1)", OTHER).refuses("copy(0, 2, 9, 0, 1)", OTHER).refuses("copy(2, 2, 0, 0, 0)", OTHER);
        x.refuses("copy(2, 5, 0, 0, 1)", OTHER).refuses("copy(5, 2, 0, 0, 1)", OTHER).refuses("copy(0, 1, 0, 0, 1)", OTHER);
        x.refuses("copy(1, 0, 0, 0, 99)", OTHER).refuses("copy(1, 5, 0, 0, 99)", NOTHING).refuses("copy(5, 1, 99, 0, 1)", NOTHING);
        x.refuses("copy(5, 5, 0, 0, 0)", NOTHING).refuses("copy(5, 6, 0, 0, -1)", NOTHING);
        int[][] bad = {{-1, 0, 1}, {0, -1, 1}, {0, 0, -1}, {5, 0, 1}, {0, 40, 1}, {6, 0, 0}, {0, 41, 0}, {0, 0, 6}, {1, 0, 5}, {0, 36, 5},
            {1, 1, HIGH}, {HIGH, 0, 1}, {0, HIGH, 1}, {HIGH, 0, HIGH}, {0, HIGH, HIGH}, {LOW, 0, 1}, {0, LOW, 1}, {0, 0, LOW}, {-1, 0, 0},
            {1, 1, -1}, {-1, -1, 2}};
        for (int[] b : bad) {
            x.refuses("copy(0, 7, " + b[0] + ", " + b[1] + ", " + b[2] + ")", BAD);
        }
        x.refuses("copy(7, 0, 0, 0, 6)", BAD).refuses("copy(7, 0, 0, 1, 5)", BAD).refuses("copy(0, 0, 0, 1, 5)", BAD);
    }

    private static void element() {
        promise(5);
        sentence("Element i of the ROW; 0: none, no ROW (nothing is refused).");
        Tried x = new Tried().does("row(0, 0, 3)", "set(0, 0, 7)", "set(0, 2, -9)", "row(1, 3, 40)", "set(1, 39, 5)", "row(3, 0, 0)");
        x.does("feature(1)").rule(0, "#7-9:1", 0).does("show(2, 0, 0, 0)");
        x.due("element(0, 0)", 7).due("element(0, 2)", -9).due("element(1, 39)", 5);
        int[][] none = {{0, 3}, {0, -1}, {0, HIGH}, {0, LOW}, {1, 40}, {2, 0}, {2, -1}, {3, 0}, {4, 0}, {8, 0}, {-1, 0}, {HIGH, 0}, {LOW, LOW}};
        for (int[] n : none) {
            x.due("element(" + n[0] + ", " + n[1] + ")", 0);
        }
        // What a longer row had is no more.
        x.does("row(1, 3, 39)").due("element(1, 39)", 0).does("show(0, -1, 0, 0)").due("element(0, 0)", 0);
        x.does("row(0, 0, 1)").due("element(0, 2)", 0);
        for (int refusal = 12; refusal <= 16; refusal++) {
            x.due("status(" + refusal + ")", 0);
        }
    }

    private static void holds() {
        promise(6);
        sentence("What SHELF s holds: NONE NOTHING, no SHELF; 0 to 4 a ROW by its SORT; 10 and the KIND of a CONDITION.");
        Tried x = new Tried().does("feature(1)");
        for (int sort = 0; sort <= 4; sort++) {
            x.due("holds(" + sort + ")", NONE).does("row(" + sort + ", " + sort + ", 1)").due("holds(" + sort + ")", sort);
        }
        String[] texts = {"!*", "*", "d=0", "#1-2", "*&*", "*|*"};
        for (int i = 0; i < texts.length; i++) {
            x.rule(0, texts[i] + ":1", i).does("show(" + i + ", 0, " + i + ", 0)").due("holds(" + i + ")", 13 + i);
        }
        x.does("show(5, -1, 0, 0)").due("holds(5)", NONE).due("holds(6)", NONE).due("holds(7)", NONE).due("holds(8)", NONE);
        x.due("holds(-1)", NONE).due("holds(" + HIGH + ")", NONE).due("holds(" + LOW + ")", NONE).due("status(12)", 0).due("status(14)", 0);
    }

    private static void show() {
        promise(7);
        sentence("SHELF s holds the CONDITION of a RULE, or a part of it (part 0 it itself; 1, 2 the first, second that it is over), or "
            + "NOTHING (feature NONE): 1.");
        Tried x = persons(1).does("feature(1)", "feature(1)");
        x.rule(0, "a=1&!b=2:1", 0).rule(0, "*|#3-4:1", 1).rule(0, "!(*|#3-4):1", 2).rule(0, "*:1", 3).rule(0, "a<1:1", 4).rule(0, "#1-2:1", 5);
        int[][] holds = {{17, 15, 13}, {18, 14, 16}, {13, 18}, {14}, {15}, {16}};
        for (int rule = 0; rule < holds.length; rule++) {
            for (int part = 0; part < holds[rule].length; part++) {
                int s = (rule + part) % 8;
                x.due("show(" + s + ", 0, " + rule + ", " + part + ")", 1).due("holds(" + s + ")", holds[rule][part]);
            }
        }
        x.due("show(7, 0, 0, 0)", 1).due("show(0, -1, 0, 0)", 1).due("holds(0)", NONE).due("show(0, -1, 5, 2)", 1).due("show(7, -1, 0, 0)", 1);
        x.due("holds(7)", NONE).does("row(7, 0, 1)").due("show(7, -1, 0, 0)", 1).due("holds(7)", NONE).does("row(7, 0, 1)");
        x.does("set(7, 0, 9)").due("show(7, 0, 5, 0)", 1).due("holds(7)", 16).refuses("set(7, 0, 1)", OTHER);
        x.due("element(7, 0)", 0).due("says(7, 6)", 2).refuses("copy(7, 7, 0, 0, 1)", OTHER);
        sentence("BAD SHELF, feature, rule, part (also where there is none).");
        x.refuses("show(8, 0, 0, 0)", BAD).refuses("show(-1, 0, 0, 0)", BAD).refuses("show(8, -1, 0, 0)", BAD).refuses("show(-1, -1, 0, 0)", BAD);
        x.refuses("show(7, 2, 0, 0)", BAD).refuses("show(7, -2, 0, 0)", BAD).refuses("show(7, 1, 0, 0)", BAD).refuses("show(7, 0, 6, 0)", BAD);
        x.refuses("show(7, 0, -1, 0)", BAD);
        for (int rule = 0; rule < holds.length; rule++) {
            for (int part : new int[] {-1, holds[rule].length, 3, HIGH, LOW}) {
                x.refuses("show(7, 0, " + rule + ", " + part + ")", BAD);
            }
        }
        x.does("drop(0, 5)").refuses("show(7, 0, 5, 0)", BAD);
    }

    /** What the shelf 0 says of KINDS 0 to 8; OTHER where a row has none. */
    private static void dueSays(Tried x, int... want) {
        for (int kind = 0; kind <= 8; kind++) {
            x.due("says(0, " + kind + ")", want[kind]);
        }
    }

    private static Tried shown(int persons, String condition) {
        return persons(persons).does("feature(1)").rule(0, condition + ":1", 0).does("show(0, 0, 0, 0)");
    }

    private static void says() {
        promise(8);
        sentence("What the CONDITION in SHELF s, taken for one of a KIND, says: CONDITION of how many of all PERSONS it is so;");
        shown(0, "*").due("says(0, 0)", 0);
        shown(24, "*").due("says(0, 0)", 24).does("gone(24)").due("says(0, 0)", 23);
        shown(24, "#2-23").due("says(0, 0)", 22);
        shown(24, "#24-24").due("says(0, 0)", 1);
        shown(24, "!*").due("says(0, 0)", 0);
        sentence("PLAIN 0 ANY, 1 TEST, 2 KEYS;");
        shown(1, "*").due("says(0, 1)", 0);
        shown(1, "a<1").due("says(0, 1)", 1);
        shown(1, "#1-2").due("says(0, 1)", 2);
        sentence("PAIR the KIND of its second;");
        String[] seconds = {"!*", "*", "a<1", "#1-2", "(*&*)", "(*|*)"};
        for (int i = 0; i < seconds.length; i++) {
            shown(1, "a<1&" + seconds[i]).due("says(0, 2)", 3 + i);
            shown(1, "a<1|" + seconds[i]).due("says(0, 2)", 3 + i);
        }
        sentence("NOT the KIND of its x;");
        for (int i = 0; i < seconds.length; i++) {
            shown(1, "!" + seconds[i]).due("says(0, 3)", 3 + i);
        }
        sentence("ANY 1;");
        dueSays(shown(0, "*"), 0, 0, OTHER, OTHER, 1, OTHER, OTHER, OTHER, OTHER);
        dueSays(shown(5, "*"), 5, 0, OTHER, OTHER, 1, OTHER, OTHER, OTHER, OTHER);
        sentence("TEST 10 times its ATTRIBUTE (0 to 3), and its digit;");
        for (int attribute = 0; attribute <= 3; attribute++) {
            char letter = (char) ('a' + attribute);
            shown(1, letter + "<0").due("says(0, 5)", 10 * attribute);
            shown(1, letter + "=5").due("says(0, 5)", 10 * attribute + 5);
            shown(1, letter + ">9").due("says(0, 5)", 10 * attribute + 9);
        }
        sentence("KEYS how many KEYS there are in it;");
        int[][] keys = {{0, 0, 1}, {5, 5, 1}, {0, 999999, 1000000}, {1, 999999, 999999}, {999999, 999999, 1}, {10, 19, 10}};
        for (int[] k : keys) {
            dueSays(shown(0, "#" + k[0] + "-" + k[1]), 0, 2, OTHER, OTHER, OTHER, OTHER, k[2], OTHER, OTHER);
        }
        sentence("BOTH of how many PERSONS just one of both is so;");
        shown(24, "#1-10&#5-24").due("says(0, 7)", 18);
        shown(24, "*&*").due("says(0, 7)", 0);
        shown(24, "*&!*").due("says(0, 7)", 24);
        shown(24, "!*&*").due("says(0, 7)", 24);
        dueSays(shown(24, "!*&!*"), 0, OTHER, 3, OTHER, OTHER, OTHER, OTHER, 0, OTHER);
        sentence("EITHER of how many both are.");
        shown(24, "#1-10|#5-24").due("says(0, 8)", 6);
        shown(24, "*|*").due("says(0, 8)", 24);
        shown(24, "*|!*").due("says(0, 8)", 0);
        dueSays(shown(24, "!*|*"), 24, OTHER, 4, OTHER, OTHER, OTHER, OTHER, OTHER, 0);
        sentence("BAD SHELF, KIND (0 to 8);");
        Tried x = furnished();
        x.refuses("says(-1, 0)", BAD).refuses("says(8, 0)", BAD).refuses("says(2, -1)", BAD).refuses("says(2, 9)", BAD);
        x.refuses("says(0, 9)", BAD).refuses("says(7, 9)", BAD).refuses("says(2, " + HIGH + ")", BAD).refuses("says(2, " + LOW + ")", BAD);
        sentence("OTHER (also if it is of no such KIND nor of one under it);");
        for (int kind = 0; kind <= 8; kind++) {
            x.refuses("says(0, " + kind + ")", OTHER).refuses("says(1, " + kind + ")", OTHER);
        }
        x.refuses("says(2, 1)", OTHER).refuses("says(2, 3)", OTHER).refuses("says(2, 8)", OTHER).refuses("says(3, 7)", OTHER);
        sentence("NOTHING.");
        for (int kind = 0; kind <= 8; kind++) {
            x.refuses("says(5, " + kind + ")", NOTHING);
        }
        x.does("show(2, -1, 0, 0)").refuses("says(2, 0)", NOTHING);
    }

    private static void feed() {
        promise(9);
        sentence("THE TAPE gets one byte (0 to 255) behind it: its size.");
        Tried x = new Tried().does("feature(1)").due("feed(0)", 1).due("feed(255)", 2).due("wipe()", 2).due("feed(42)", 1).due("feed(58)", 2);
        x.due("feed(49)", 3).due("status(8)", 3).due("rule(0)", 0).dueSpelling(0, 0, "*:1").due("feed(7)", 1);
        sentence("BAD;");
        x.refuses("feed(-1)", BAD).refuses("feed(256)", BAD).refuses("feed(" + HIGH + ")", BAD).refuses("feed(" + LOW + ")", BAD);
        x.refuses("feed(298)", BAD);
        sentence("FULL.");
        Tried y = new Tried().does("feature(1)");
        for (int size = 1; size <= 250; size++) {
            y.due("feed(" + size % 256 + ")", size);
        }
        y.refuses("feed(0)", FULL).refuses("feed(255)", FULL).refuses("feed(256)", BAD).refuses("feed(-1)", BAD);
        y.due("wipe()", 250).due("feed(1)", 1);
    }

    private static void wipe() {
        promise(10);
        sentence("THE TAPE is empty: its size ahead.");
        Tried x = new Tried().due("wipe()", 0).feed("abc").due("wipe()", 3).due("status(8)", 0).due("wipe()", 0);
        x.does("feature(1)").feed("*:").does("wipe()").rule(0, "*:1", 0);
        x.feed("!".repeat(250)).due("wipe()", 250).due("feed(1)", 1);
    }

    private static void person() {
        promise(11);
        sentence("A PERSON comes (or, if there is one of that KEY, has other ATTRIBUTES): how many there are.");
        Tried x = new Tried().due("person(5, 0)", 1).due("person(0, 9999)", 2).due("person(5, 1)", 2).due("attributes(5)", 1);
        x.due("personOf(0)", 5).due("person(0, 0)", 2).due("attributes(0)", 0).due("status(0)", 2);
        // It keeps what it had.
        x.does("feature(1)", "feature(1)", "override(1, 5, 1)", "tell(0, 1, 1)").rule(0, "*%333,0,0", 0);
        int kept = bucketOf(1, 5) < 333 ? 1 : 0;
        x.due("ask(0, 5)", kept).due("person(5, 77)", 2).due("kept(0, 5)", kept == 1 ? 1 : NONE).due("would(1, 5, 1)", 1);
        sentence("BAD key, attributes (0 to 9999);");
        int[][] bad = {{-1, 0}, {1000000, 0}, {5, -1}, {5, 10000}, {7, -1}, {7, 10000}, {-1, 10000}, {LOW, 0}, {HIGH, 0}, {5, LOW}, {5, HIGH}};
        for (int[] b : bad) {
            x.refuses("person(" + b[0] + ", " + b[1] + ")", BAD);
        }
        sentence("FULL.");
        Tried full = persons(23).due("person(999999, 9999)", 24).refuses("person(0, 0)", FULL).refuses("person(24, 10000)", BAD);
        full.refuses("person(1000000, 0)", BAD).due("person(1, 4)", 24).due("person(999999, 0)", 24);
        full.due("gone(1)", 23).due("person(0, 0)", 24).refuses("person(1, 0)", FULL);
    }

    private static void gone() {
        promise(12);
        sentence("A PERSON goes: how many there are.");
        Tried x = new Tried();
        for (int i = 0; i < 24; i++) {
            x.does("person(" + (100 + i) + ", " + (9000 + i) + ")");
        }
        x.due("gone(100)", 23).due("gone(123)", 22).due("gone(110)", 21);
        for (int i = 0, key = 101; i < 21; i++, key++) {
            key += key == 110 ? 1 : 0;
            x.due("personOf(" + i + ")", key).due("attributes(" + key + ")", 8900 + key);
        }
        x.refuses("personOf(21)", BAD);
        for (int left = 21; left > 0; left--) {
            x.due("gone(" + x.tell("personOf(" + left / 2 + ")") + ")", left - 1);
        }
        x.refuses("gone(101)", BAD).due("person(100, 0)", 1);
        sentence("BAD.");
        Tried y = persons(2);
        for (int key : new int[] {0, 3, -1, 1000000, LOW, HIGH}) {
            y.refuses("gone(" + key + ")", BAD);
        }
        y.does("gone(1)").refuses("gone(1)", BAD);
    }

    private static void personOf() {
        promise(13);
        sentence("KEY of the i-th PERSON.");
        Tried x = persons(23).does("person(999999, 0)").due("personOf(0)", 1).due("personOf(22)", 23).due("personOf(23)", 999999);
        sentence("BAD.");
        x.refuses("personOf(24)", BAD).refuses("personOf(-1)", BAD).refuses("personOf(" + HIGH + ")", BAD).refuses("personOf(" + LOW + ")", BAD);
        persons(1).refuses("personOf(1)", BAD).does("gone(1)").refuses("personOf(0)", BAD);
    }

    private static void attributes() {
        promise(14);
        sentence("ATTRIBUTES of a PERSON.");
        Tried x = new Tried().does("person(0, 9999)", "person(999999, 0)", "person(7, 10)");
        x.due("attributes(0)", 9999).due("attributes(999999)", 0).due("attributes(7)", 10);
        sentence("BAD.");
        for (int key : new int[] {1, 999998, -1, 1000000, LOW, HIGH}) {
            x.refuses("attributes(" + key + ")", BAD);
        }
        x.does("gone(7)").refuses("attributes(7)", BAD);
    }

    private static void bucket() {
        promise(15);
        sentence("BUCKET of a KEY by a SALT (0 to 200).");
        Tried x = new Tried();
        for (int salt : new int[] {0, 1, 12, 100, 103, 199, 200}) {
            for (int key : new int[] {0, 1, 65535, 65536, 500000, 999998, 999999}) {
                x.due("bucket(" + salt + ", " + key + ")", bucketOf(salt, key));
            }
        }
        sentence("BAD: no KEY, SALT.");
        int[][] bad = {{-1, 0}, {201, 0}, {0, -1}, {0, 1000000}, {LOW, 0}, {HIGH, 0}, {0, LOW}, {0, HIGH}, {201, 1000000}};
        for (int[] b : bad) {
            x.refuses("bucket(" + b[0] + ", " + b[1] + ")", BAD);
        }
    }

    private static void feature() {
        promise(16);
        sentence("A FEATURE with VARIANTS 0 to n (1 to 3): its number.");
        Tried x = new Tried();
        for (int i = 0; i < 12; i++) {
            x.due("feature(" + (3 - i % 3) + ")", i);
        }
        for (int i = 0; i < 12; i++) {
            int top = 3 - i % 3;
            x.due("featureOf(" + i + ", 0)", top).due("reach(" + i + ", " + top + ")", 0).due("status(1)", 12);
            x.due("counted(" + i + ", " + (top + 1) + ")", BAD);
        }
        sentence("BAD;");
        Tried y = new Tried().does("feature(2)");
        for (int n : new int[] {0, 4, -1, LOW, HIGH}) {
            y.refuses("feature(" + n + ")", BAD);
            x.refuses("feature(" + n + ")", BAD);
        }
        sentence("FULL.");
        x.refuses("feature(1)", FULL).refuses("feature(3)", FULL);
    }

    private static void tell() {
        promise(17);
        sentence("KILLED (what 0), STICKY (1) become v (1, 0), FALLBACK (2) becomes v: what it was.");
        Tried x = persons(1).does("feature(3)", "feature(1)");
        for (int what = 0; what <= 1; what++) {
            x.due("tell(0, " + what + ", 0)", 0).due("tell(0, " + what + ", 1)", 0).due("tell(0, " + what + ", 1)", 1);
            x.due("featureOf(0, " + (1 + what) + ")", 1).due("tell(0, " + what + ", 0)", 1).due("featureOf(0, " + (1 + what) + ")", 0);
        }
        x.due("tell(0, 2, 3)", 0).due("tell(0, 2, 1)", 3).due("tell(0, 2, 2)", 1).due("tell(0, 2, 0)", 2).due("tell(0, 2, 3)", 0);
        x.due("featureOf(0, 3)", 3).due("featureOf(1, 3)", 0).due("tell(1, 2, 1)", 0).due("featureOf(1, 3)", 1);
        sentence("BAD.");
        int[][] bad = {{0, 0, 2}, {0, 0, -1}, {0, 1, 2}, {0, 1, -1}, {0, 2, 4}, {0, 2, -1}, {1, 2, 2}, {0, 3, 0}, {0, -1, 0}, {2, 0, 0}, {-1, 0, 0},
            {0, 0, HIGH}, {0, 1, LOW}, {0, 2, HIGH}, {0, HIGH, 0}, {LOW, 0, 0}, {0, 0, 256}};
        for (int[] b : bad) {
            x.refuses("tell(" + b[0] + ", " + b[1] + ", " + b[2] + ")", BAD);
        }
    }

    private static void rule() {
        promise(18);
        sentence("THE TAPE is one more RULE of a FEATURE: its number;");
        Tried x = persons(3).does("feature(1)", "feature(3)");
        for (int i = 0; i < 6; i++) {
            x.rule(1, "#" + i + "-9:" + i % 4, i).due("featureOf(1, 4)", i + 1);
        }
        x.rule(0, "*:1", 0).due("status(2)", 7).dueSpelling(1, 5, "#5-9:1").dueSpelling(0, 0, "*:1");
        sentence("-500 less the FAULT (that is refused, too: BAD);");
        x.refusesRule(0, "", -500).refusesRule(0, "*:1*", -503).refusesRule(0, "*:2", -502).refusesRule(0, "!".repeat(250), -750);
        x.refusesRule(0, "!".repeat(249) + ":", -749);
        sentence("BAD: no such FEATURE, ahead of that;");
        for (int feature : new int[] {2, -1, 12, LOW, HIGH}) {
            x.refusesRule(feature, "*:1", BAD).refusesRule(feature, "*:", BAD).refusesRule(feature, "", BAD);
        }
        sentence("FULL, behind it.");
        x.refusesRule(1, "*:1", FULL).refusesRule(1, "*:4", -502).refusesRule(1, "", -500);
        x.does("drop(1, 0)").rule(1, "*:1", 5).refusesRule(1, "*%1,1,1", FULL);
        sentence("THE TAPE is empty then, in any case.");
        Tried y = new Tried().rule(0, "*:1", BAD).does("feature(1)").rule(0, "*:1", 0).rule(0, "*:2", -502).rule(2, "", BAD);
        for (int i = 1; i < 6; i++) {
            y.rule(0, "*:1", i);
        }
        y.rule(0, "*:1", FULL).due("rule(0)", -500).due("feed(1)", 1);
    }

    private static void drop() {
        promise(19);
        sentence("A RULE goes: how many there are.");
        Tried x = new Tried().does("feature(1)", "feature(1)").rule(1, "*:1", 0);
        for (int i = 0; i < 6; i++) {
            x.rule(0, "#" + i + "-9:1", i);
        }
        x.due("drop(0, 5)", 5).due("drop(0, 0)", 4).dueSpelling(0, 0, "#1-9:1").dueSpelling(0, 3, "#4-9:1").due("drop(0, 1)", 3);
        x.dueSpelling(0, 1, "#3-9:1").due("status(2)", 4).due("drop(0, 0)", 2).due("drop(0, 0)", 1).due("drop(0, 0)", 0).due("status(2)", 1);
        sentence("BAD.");
        x.refuses("drop(0, 0)", BAD).refuses("drop(1, 1)", BAD).refuses("drop(1, -1)", BAD).refuses("drop(2, 0)", BAD).refuses("drop(-1, 0)", BAD);
        x.refuses("drop(1, " + HIGH + ")", BAD).refuses("drop(1, " + LOW + ")", BAD);
    }

    private static void part() {
        promise(20);
        sentence("The PART of a VARIANT (1 on) of a RULE becomes v (0 to 333): what it was.");
        Tried x = new Tried().does("feature(3)", "feature(1)", "feature(2)").rule(0, "*%1,2,3", 0).rule(0, "*%4,5,6", 1).rule(0, "*:1", 2);
        x.rule(1, "*%7,0,0", 0).rule(2, "*%8,9,0", 0);
        for (int rule = 0; rule <= 1; rule++) {
            for (int variant = 1; variant <= 3; variant++) {
                String call = "part(0, " + rule + ", " + variant + ", ";
                x.due(call + "333)", 3 * rule + variant).due(call + "0)", 333).due(call + "332)", 0);
            }
        }
        x.due("part(1, 0, 1, 333)", 7).due("part(2, 0, 2, 0)", 9).dueSpelling(0, 0, "*%332,332,332").dueSpelling(2, 0, "*%8,0,0");
        sentence("BAD;");
        int[][] bad = {{0, 0, 0, 1}, {0, 0, 4, 1}, {0, 0, -1, 1}, {0, 0, 1, 334}, {0, 0, 1, -1}, {0, 3, 1, 1}, {0, -1, 1, 1}, {3, 0, 1, 1},
            {-1, 0, 1, 1}, {1, 0, 2, 0}, {2, 0, 3, 0}, {1, 1, 1, 1}, {0, 0, 1, HIGH}, {0, 0, 1, LOW}, {0, 0, HIGH, 1}, {0, 2, 0, 1}, {0, 2, 1, 334}};
        for (int[] b : bad) {
            x.refuses("part(" + b[0] + ", " + b[1] + ", " + b[2] + ", " + b[3] + ")", BAD);
        }
        sentence("STUCK: it is FIXED.");
        for (int variant = 1; variant <= 3; variant++) {
            x.refuses("part(0, 2, " + variant + ", 0)", STUCK).refuses("part(0, 2, " + variant + ", 333)", STUCK);
        }
        new Tried().does("feature(1)").rule(0, "*:0", 0).refuses("part(0, 0, 1, 0)", STUCK);
    }

    private static void needs() {
        promise(21);
        sentence("A FEATURE needs that another one has a VARIANT: how many NEEDS it has.");
        Tried x = persons(1).does("feature(1)", "feature(3)", "feature(2)", "feature(1)", "feature(1)");
        x.due("needs(0, 1, 3)", 1).due("needs(0, 2, 2)", 2).due("needs(0, 1, 0)", 3).due("needs(4, 0, 1)", 1).due("status(3)", 4);
        x.due("needed(0)", 6).due("needed(4)", 7).due("would(0, 1, 2)", 1);
        sentence("BAD;");
        int[][] bad = {{0, 1, 4}, {0, 1, -1}, {3, 2, 3}, {3, 4, 2}, {5, 0, 0}, {-1, 0, 0}, {0, 5, 0}, {0, -1, 0}, {0, 0, 2}, {3, 3, 2}, {HIGH, 0, 0},
            {0, LOW, 0}, {3, 0, HIGH}, {3, 0, LOW}, {0, 4, 2}};
        for (int[] b : bad) {
            x.refuses("needs(" + b[0] + ", " + b[1] + ", " + b[2] + ")", BAD);
        }
        sentence("STUCK: it would need itself;");
        x.refuses("needs(0, 0, 0)", STUCK).refuses("needs(0, 4, 0)", STUCK).refuses("needs(1, 0, 0)", STUCK).refuses("needs(1, 4, 1)", STUCK);
        x.refuses("needs(3, 3, 1)", STUCK).due("needs(3, 4, 1)", 1).refuses("needs(2, 3, 0)", STUCK);
        sentence("FULL: 3.");
        x.refuses("needs(0, 3, 0)", STUCK).refuses("needs(0, 1, 1)", FULL).refuses("needs(0, 2, 0)", FULL);
        x.does("free(0)").due("needs(0, 2, 0)", 1).due("needs(0, 2, 1)", 2).due("needs(0, 2, 2)", 3).refuses("needs(0, 2, 0)", FULL);
    }

    private static void free() {
        promise(22);
        sentence("Its NEEDS are no more: how many there were.");
        Tried x = persons(1).does("feature(1)", "feature(1)", "feature(1)").due("free(0)", 0);
        x.does("needs(0, 1, 1)").due("free(0)", 1).does("needs(0, 1, 1)", "needs(0, 2, 1)", "needs(0, 2, 0)", "needs(2, 1, 1)").due("free(0)", 3);
        x.due("featureOf(0, 5)", 0).due("needed(0)", 0).due("would(0, 1, 1)", 7).due("free(0)", 0).due("featureOf(2, 5)", 1).due("status(3)", 1);
        x.due("needs(1, 0, 0)", 1).due("needs(0, 2, 0)", STUCK);
        sentence("BAD.");
        x.refuses("free(3)", BAD).refuses("free(-1)", BAD).refuses("free(" + HIGH + ")", BAD).refuses("free(" + LOW + ")", BAD);
    }

    private static void override() {
        promise(23);
        sentence("OVERRIDE of a KEY becomes a VARIANT, or there is none (variant NONE): what it was; NONE.");
        Tried x = persons(9).does("feature(3)", "feature(1)").due("override(0, 1, -1)", NONE).due("featureOf(0, 6)", 0);
        x.due("override(0, 1, 0)", NONE).due("override(0, 1, 3)", 0).due("override(0, 1, 3)", 3).due("override(0, 1, -1)", 3);
        x.due("override(0, 1, -1)", NONE).due("would(0, 1, 1)", 7).due("override(0, 9, 2)", NONE).due("by(0, 1)", 256).due("override(1, 9, 1)", NONE);
        sentence("BAD feature, variant, no PERSON;");
        int[][] bad = {{2, 1, 1}, {-1, 1, 1}, {0, 1, 4}, {0, 1, -2}, {1, 1, 2}, {0, 10, 1}, {0, 0, 1}, {0, -1, 1}, {0, 10, -1}, {2, 1, -1},
            {HIGH, 1, 1}, {0, HIGH, 1}, {0, 1, HIGH}, {0, 1, LOW}};
        for (int[] b : bad) {
            x.refuses("override(" + b[0] + ", " + b[1] + ", " + b[2] + ")", BAD);
        }
        sentence("FULL: 8.");
        for (int key = 1; key <= 7; key++) {
            x.due("override(0, " + key + ", 0)", NONE);
        }
        x.refuses("override(0, 8, 1)", FULL).refuses("override(0, 8, 0)", FULL).refuses("override(0, 8, 4)", BAD);
        x.due("override(0, 8, -1)", NONE).due("override(0, 7, 1)", 0).due("override(0, 9, -1)", 2).due("override(0, 8, 1)", NONE);
        x.refuses("override(0, 9, 1)", FULL).due("gone(1)", 8).due("override(0, 9, 1)", NONE);
        sentence("(NONE isn't refused.)");
        x.changesNothing("override(1, 8, -1)").due("status(12)", 0).due("status(16)", 0);
    }

    private static void layer() {
        promise(24);
        sentence("It is in a LAYER with a RANGE (0 <= from <= to <= 999), or in none (layer NONE; from, to as you like): 1.");
        Tried x = persons(1).does("feature(1)", "feature(1)");
        int[][] fine = {{0, 0, 0}, {3, 999, 999}, {0, 0, 999}, {1, 5, 5}, {2, 998, 999}};
        for (int[] r : fine) {
            x.due("layer(0, " + r[0] + ", " + r[1] + ", " + r[2] + ")", 1).due("featureOf(0, 7)", r[0]).due("featureOf(0, 8)", r[2] - r[1] + 1);
        }
        int[][] none = {{0, 0}, {-1, 1000}, {5, 4}, {HIGH, LOW}, {LOW, HIGH}};
        for (int[] r : none) {
            x.does("layer(0, 1, 5, 9)").due("layer(0, -1, " + r[0] + ", " + r[1] + ")", 1).due("featureOf(0, 7)", NONE).due("featureOf(0, 8)", 0);
        }
        x.due("layer(0, -1, 0, 0)", 1).due("would(0, 1, 1)", 7);
        sentence("BAD;");
        int[][] bad = {{0, 4, 0, 0}, {0, -2, 0, 0}, {0, 0, -1, 0}, {0, 0, 0, 1000}, {0, 0, 1, 0}, {0, 0, 999, 998}, {2, 0, 0, 0}, {-1, 0, 0, 0},
            {2, -1, 0, 0}, {0, 0, 1000, 1000}, {0, HIGH, 0, 0}, {0, 0, LOW, 0}, {0, 0, 0, HIGH}, {0, LOW, 0, 0}, {0, 0, -5, -3}};
        for (int[] b : bad) {
            x.refuses("layer(" + b[0] + ", " + b[1] + ", " + b[2] + ", " + b[3] + ")", BAD);
        }
        sentence("STUCK: another one in the LAYER has one of these BUCKETS.");
        x.does("layer(0, 3, 10, 20)");
        int[][] stuck = {{20, 20}, {10, 10}, {0, 10}, {20, 999}, {15, 16}, {10, 20}, {9, 21}, {0, 999}};
        for (int[] r : stuck) {
            x.refuses("layer(1, 3, " + r[0] + ", " + r[1] + ")", STUCK);
        }
        x.refuses("layer(1, 3, 20, 1000)", BAD).due("layer(1, 3, 0, 9)", 1).due("layer(1, 3, 21, 999)", 1).due("layer(1, 2, 0, 999)", 1);
        x.due("layer(0, 3, 0, 999)", 1).refuses("layer(1, 3, 999, 999)", STUCK).due("layer(0, 1, 0, 0)", 1).due("layer(1, 3, 999, 999)", 1);
        x.refuses("layer(0, 3, 999, 999)", STUCK).due("featureOf(0, 7)", 1).due("layer(1, -1, 0, 0)", 1).due("layer(0, 3, 999, 999)", 1);
        // It is so with twelve, side by side.
        Tried all = new Tried();
        for (int f = 0; f < 12; f++) {
            all.does("feature(1)").due("layer(" + f + ", 0, " + 83 * f + ", " + (83 * f + 82) + ")", 1);
        }
        for (int f = 0; f < 12; f++) {
            all.due("layer(" + f + ", 0, " + 83 * f + ", " + (83 * f + 83) + ")", f == 11 ? 1 : STUCK);
        }
    }

    private static void step() {
        promise(25);
        sentence("A STEP: how many there are.");
        Tried x = new Tried().does("feature(2)", "feature(3)", "pass(5)");
        x.due("step(5, 0, 0, 1, 0)", 1).due("step(1000000, 0, 5, 2, 333)", 2).due("step(6, 1, 5, 3, 1)", 3).due("step(6, 1, 5, 3, 1)", 4);
        sentence("BAD time (below NOW, above 1000000), feature, rule (0 to 5), variant (1 on, that it has), part;");
        int[][] bad = {{4, 0, 0, 1, 0}, {1000001, 0, 0, 1, 0}, {-1, 0, 0, 1, 0}, {5, 2, 0, 1, 0}, {5, -1, 0, 1, 0}, {5, 0, 6, 1, 0}, {5, 0, -1, 1, 0},
            {5, 0, 0, 0, 0}, {5, 0, 0, 3, 0}, {5, 1, 0, 4, 0}, {5, 0, 0, -1, 0}, {5, 0, 0, 1, -1}, {5, 0, 0, 1, 334}, {LOW, 0, 0, 1, 0},
            {HIGH, 0, 0, 1, 0}, {5, HIGH, 0, 1, 0}, {5, 0, LOW, 1, 0}, {5, 0, HIGH, 1, 0}, {5, 0, 0, HIGH, 0}, {5, 0, 0, 1, HIGH}, {5, 0, 0, 1, LOW}};
        for (int[] b : bad) {
            x.refuses("step(" + b[0] + ", " + b[1] + ", " + b[2] + ", " + b[3] + ", " + b[4] + ")", BAD);
        }
        sentence("FULL.");
        for (int i = 5; i <= 24; i++) {
            x.due("step(9, 0, 0, 1, 1)", i);
        }
        x.refuses("step(9, 0, 0, 1, 1)", FULL).refuses("step(1000000, 1, 5, 3, 333)", FULL).refuses("step(9, 0, 0, 1, 334)", BAD);
        sentence("(One of NOW is DONE with the next pass().)");
        x.due("status(4)", 24).rule(0, "*%9,0,0", 0).due("pass(0)", 1).dueSpelling(0, 0, "*%0,0,0").due("status(4)", 23);
        x.due("step(5, 0, 0, 2, 7)", 24).due("pass(1)", 3).dueSpelling(0, 0, "*%0,7,0").due("status(4)", 21);
    }

    private static void pass() {
        promise(26);
        sentence("NOW is n (0 to 999) more: how many STEPS were DONE.");
        Tried x = new Tried().does("feature(1)").due("pass(0)", 0).due("status(5)", 0).due("pass(999)", 0).due("status(5)", 999);
        x.does("step(1000, 0, 0, 1, 1)", "step(1001, 0, 0, 1, 1)", "step(999, 0, 0, 1, 1)", "step(2000, 0, 0, 1, 1)");
        x.due("pass(1)", 2).due("pass(0)", 0).due("pass(999)", 1).due("status(5)", 1999).due("pass(1)", 1).due("status(5)", 2000);
        for (int i = 0; i < 24; i++) {
            x.does("step(2999, 0, 0, 1, 1)");
        }
        x.due("pass(998)", 0).due("pass(1)", 24);
        sentence("BAD.");
        x.does("step(2999, 0, 0, 1, 1)");
        for (int n : new int[] {-1, 1000, LOW, HIGH}) {
            x.refuses("pass(" + n + ")", BAD);
        }
    }

    private static Tried furnished() {
        return AnswersSentences.furnished();
    }
}
