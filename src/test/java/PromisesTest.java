/** A test of each promise of ../shared/DOC.md, by its number: ordinary inputs, edges, and wrong inputs. */
public final class PromisesTest {
    private static final int NONE = -1;
    private static final int BAD = -32;
    private static final int OTHER = -33;
    private static final int NOTHING = -34;
    private static final int STUCK = -35;
    private static final int FULL = -36;
    private static final int LOW = Integer.MIN_VALUE;
    private static final int HIGH = Integer.MAX_VALUE;

    private static int wrong = 0;
    private static int asked = 0;
    private static int promise = 0;

    public static void main(String[] args) {
        newObjectToElement();
        holdsToWipe();
        personToBucket();
        featureToPart();
        needsToPass();
        askToCounted();
        byToNeeded();
        keptToJudge();
        daysToStatus();
        System.out.println(asked + " answers looked at, " + wrong + " not as due");
        if (wrong != 0) {
            System.exit(1);
        }
    }

    private static void due(String call, long got, long want) {
        asked++;
        if (got != want) {
            wrong++;
            System.out.println("promise " + promise + ": " + call + " answered " + got + ", due is " + want);
        }
    }

    private static void feed(FeatureDesk x, String text) {
        for (char letter : text.toCharArray()) {
            x.feed(letter);
        }
    }

    private static int rule(FeatureDesk x, int feature, String text) {
        feed(x, text);
        return x.rule(feature);
    }

    private static void dueRule(FeatureDesk x, int feature, String text, int want) {
        due("rule " + text, rule(x, feature, text), want);
        due("the tape behind rule " + text, x.status(8), 0);
    }

    private static String spelling(FeatureDesk x, int feature, int rule) {
        StringBuilder text = new StringBuilder();
        for (int i = 0; i < 400 && x.spelled(feature, rule, i) != NONE; i++) {
            text.append((char) x.spelled(feature, rule, i));
        }
        return text.toString();
    }

    private static void dueSpelling(int top, String text, String want) {
        FeatureDesk x = new FeatureDesk();
        x.feature(top);
        due("rule " + text, rule(x, 0, text), 0);
        String got = spelling(x, 0, 0);
        due(text + " spelled " + got + " for " + want, got.equals(want) ? 1 : 0, 1);
    }

    /** Persons 1 to n, all with attributes 0. */
    private static FeatureDesk persons(int n) {
        FeatureDesk x = new FeatureDesk();
        for (int key = 1; key <= n; key++) {
            x.person(key, 0);
        }
        return x;
    }

    private static void newObjectToElement() {
        promise1();
        promise2();
        promise3();
        promise4();
        promise5();
    }

    private static void promise1() {
        promise = 1;
        FeatureDesk x = new FeatureDesk();
        due("NONE", FeatureDesk.NONE, -1);
        for (int what = 0; what <= 8; what++) {
            due("status " + what, x.status(what), 0);
        }
        due("seed", x.status(9), 1);
        for (int what = 10; what <= 16; what++) {
            due("status " + what, x.status(what), what == 11 ? NONE : 0);
        }
        for (int s = 0; s < 8; s++) {
            due("holds " + s, x.holds(s), NONE);
        }
        due("no image", x.back(), STUCK);
        FeatureDesk y = new FeatureDesk();
        y.person(3, 3);
        due("objects have nothing in common", x.status(0), 0);
    }

    private static void promise2() {
        promise = 2;
        FeatureDesk x = new FeatureDesk();
        due("row", x.row(0, 0, 40), 1);
        due("row", x.row(7, 4, 0), 1);
        due("holds", x.holds(7), 4);
        x.set(0, 39, 5);
        due("element", x.element(0, 39), 5);
        due("row again", x.row(0, 3, 40), 1);
        due("a new row has zeros", x.element(0, 39), 0);
        due("no shelf", x.row(-1, 0, 1), BAD);
        due("no shelf", x.row(8, 0, 1), BAD);
        due("no sort", x.row(1, -1, 1), BAD);
        due("no sort", x.row(1, 5, 1), BAD);
        due("too few", x.row(1, 0, -1), BAD);
        due("too many", x.row(1, 0, 41), BAD);
        due("nothing came of it", x.holds(1), NONE);
        due("refusals", x.status(12), 6);
        x.feature(1);
        rule(x, 0, "*:1");
        x.show(2, 0, 0, 0);
        due("a row where a condition was", x.row(2, 1, 3), 1);
        due("holds", x.holds(2), 1);
    }

    private static void promise3() {
        promise = 3;
        FeatureDesk x = new FeatureDesk();
        long v = 0x7edcba9876543280L;
        long[] want = {(byte) v, (short) v, (int) v, v, 1};
        for (int sort = 0; sort < 5; sort++) {
            x.row(sort, sort, 3);
            due("set", x.set(sort, 2, v), 1);
            due("element of sort " + sort, x.element(sort, 2), want[sort]);
            due("its neighbour", x.element(sort, 1), 0);
        }
        x.set(4, 0, 256);
        due("256 is so", x.element(4, 0), 1);
        x.set(4, 0, 0);
        due("0 is not so", x.element(4, 0), 0);
        x.set(0, 0, 255);
        due("255 as a byte", x.element(0, 0), -1);
        due("no shelf", x.set(8, 0, 1), BAD);
        due("no shelf", x.set(-1, 0, 1), BAD);
        due("nothing there", x.set(5, 99, 1), NOTHING);
        due("no element", x.set(0, 3, 1), BAD);
        due("no element", x.set(0, -1, 1), BAD);
        x.feature(1);
        rule(x, 0, "*:1");
        x.show(6, 0, 0, 0);
        due("a condition", x.set(6, 99, 1), OTHER);
    }

    private static void promise4() {
        promise = 4;
        FeatureDesk x = new FeatureDesk();
        x.row(0, 2, 5);
        x.row(1, 2, 3);
        x.row(2, 1, 3);
        for (int i = 0; i < 5; i++) {
            x.set(0, i, 10 + i);
        }
        due("copy", x.copy(0, 1, 3, 1, 2), 2);
        due("element", x.element(1, 0), 0);
        due("element", x.element(1, 1), 13);
        due("element", x.element(1, 2), 14);
        due("onto itself", x.copy(0, 0, 0, 1, 4), 4);
        due("as they were", x.element(0, 4), 13);
        due("as they were", x.element(0, 1), 10);
        due("none, at the ends", x.copy(0, 1, 5, 3, 0), 0);
        due("past the end", x.copy(0, 1, 5, 0, 1), BAD);
        due("past the end", x.copy(0, 1, 0, 0, 4), BAD);
        due("place", x.copy(0, 1, -1, 0, 1), BAD);
        due("place", x.copy(0, 1, 0, -1, 1), BAD);
        due("place", x.copy(0, 1, 6, 0, 0), BAD);
        due("count", x.copy(0, 1, 0, 0, -1), BAD);
        due("wraps", x.copy(0, 1, 1, 1, HIGH), BAD);
        due("wraps", x.copy(0, 1, HIGH, 1, 1), BAD);
        due("two sorts", x.copy(0, 2, 0, 0, 99), OTHER);
        due("nothing", x.copy(0, 3, 0, 0, 99), NOTHING);
        due("nothing", x.copy(3, 0, 0, 0, 99), NOTHING);
        due("no shelf", x.copy(0, 8, 0, 0, 1), BAD);
        due("no shelf", x.copy(-1, 0, 0, 0, 1), BAD);
        x.feature(1);
        rule(x, 0, "*:1");
        x.show(4, 0, 0, 0);
        due("a condition and nothing", x.copy(4, 3, 0, 0, 1), OTHER);
        due("nothing and a condition", x.copy(3, 4, 0, 0, 1), OTHER);
        due("a condition and no shelf", x.copy(4, 9, 0, 0, 1), BAD);
    }

    private static void promise5() {
        promise = 5;
        FeatureDesk x = new FeatureDesk();
        x.row(0, 3, 2);
        x.set(0, 1, Long.MIN_VALUE);
        due("element", x.element(0, 1), Long.MIN_VALUE);
        due("none", x.element(0, 2), 0);
        due("none", x.element(0, -1), 0);
        x.row(2, 3, 40);
        due("none behind the longest row", x.element(2, 40), 0);
        due("no row", x.element(1, 0), 0);
        due("no shelf", x.element(8, 0), 0);
        due("no shelf", x.element(LOW, HIGH), 0);
        x.feature(1);
        rule(x, 0, "*:1");
        x.show(1, 0, 0, 0);
        due("a condition", x.element(1, 0), 0);
        due("nothing is refused", x.status(12) + x.status(13) + x.status(14), 0);
    }

    private static void holdsToWipe() {
        promise6();
        promise7();
        promise8();
        promise9();
        promise10();
    }

    private static void promise6() {
        promise = 6;
        FeatureDesk x = new FeatureDesk();
        x.feature(1);
        String[] texts = {"!*:1", "*:1", "a<1:1", "#1-2:1", "*&*:1", "*|*:1"};
        int[] kinds = {13, 14, 15, 16, 17, 18};
        for (int i = 0; i < texts.length; i++) {
            rule(x, 0, texts[i]);
            x.show(i, 0, i, 0);
            due("holds " + texts[i], x.holds(i), kinds[i]);
        }
        for (int sort = 0; sort < 5; sort++) {
            x.row(sort, sort, 0);
            due("holds a row", x.holds(sort), sort);
        }
        due("holds nothing", x.holds(7), NONE);
        due("no shelf", x.holds(8), NONE);
        due("no shelf", x.holds(-1), NONE);
        due("nothing is refused", x.status(12), 0);
    }

    private static void promise7() {
        promise = 7;
        FeatureDesk x = persons(2);
        x.feature(1);
        rule(x, 0, "!(a=1&#1-2|*):1");
        due("itself", x.show(0, 0, 0, 0), 1);
        due("holds", x.holds(0), 13);
        due("what it is over", x.show(0, 0, 0, 1), 1);
        due("holds", x.holds(0), 18);
        due("NOT has no second", x.show(1, 0, 0, 2), BAD);
        rule(x, 0, "a=1&#1-2|*:1");
        due("first", x.show(1, 0, 1, 1), 1);
        due("holds", x.holds(1), 17);
        due("second", x.show(2, 0, 1, 2), 1);
        due("holds", x.holds(2), 14);
        due("no part", x.show(3, 0, 1, 3), BAD);
        due("no part", x.show(3, 0, 1, -1), BAD);
        due("no rule", x.show(3, 0, 2, 0), BAD);
        due("no rule", x.show(3, 0, -1, 0), BAD);
        due("no feature", x.show(3, 1, 0, 0), BAD);
        due("no feature", x.show(3, -2, 0, 0), BAD);
        x.row(4, 2, 3);
        x.set(4, 1, 7);
        due("where a row was", x.show(4, 0, 0, 0), 1);
        due("holds", x.holds(4), 13);
        due("no row now", x.element(4, 1), 0);
        due("no row now", x.set(4, 1, 1), OTHER);
        due("says", x.says(4, 3), 8);
        x.show(4, NONE, 0, 0);
        due("no shelf", x.show(8, 0, 0, 0), BAD);
        due("no shelf", x.show(-1, NONE, 0, 0), BAD);
        rule(x, 0, "*:1");
        due("ANY has no parts", x.show(3, 0, 2, 1), BAD);
        due("refusals", x.status(12), 10);
        due("the rule goes", x.drop(0, 1), 2);
        due("the condition stays as it is", x.holds(1), 17);
        due("says", x.says(1, 7), 2);
        due("nothing", x.show(1, NONE, 0, 0), 1);
        due("holds", x.holds(1), NONE);
        due("nothing, of a row", x.row(1, 0, 1) + x.show(1, NONE, 77, 77), 2);
        due("holds", x.holds(1), NONE);
    }

    private static void promise8() {
        promise = 8;
        FeatureDesk x = new FeatureDesk();
        x.person(10, 1234);
        x.person(20, 5678);
        x.person(30, 1000);
        x.feature(1);
        rule(x, 0, "a<5&#10-20|!c>3:1");
        x.show(0, 0, 0, 0);
        due("of how many it is so", x.says(0, 0), 2);
        due("kind of the second", x.says(0, 2), 3);
        due("both", x.says(0, 8), 1);
        due("EITHER is no BOTH", x.says(0, 7), OTHER);
        due("EITHER is not PLAIN", x.says(0, 1), OTHER);
        x.show(1, 0, 0, 1);
        due("just one", x.says(1, 7), 2);
        due("of how many", x.says(1, 0), 1);
        due("kind of the second", x.says(1, 2), 6);
        due("BOTH is no EITHER", x.says(1, 8), OTHER);
        x.show(2, 0, 0, 2);
        due("NOT", x.says(2, 3), 5);
        due("of how many", x.says(2, 0), 2);
        rule(x, 0, "c>3&#000010-999999:1");
        x.show(3, 0, 1, 1);
        due("TEST", x.says(3, 5), 23);
        due("PLAIN TEST", x.says(3, 1), 1);
        x.show(4, 0, 1, 2);
        due("KEYS", x.says(4, 6), 999990);
        due("PLAIN KEYS", x.says(4, 1), 2);
        rule(x, 0, "*:0");
        x.show(5, 0, 2, 0);
        due("ANY", x.says(5, 4), 1);
        due("PLAIN ANY", x.says(5, 1), 0);
        due("of how many", x.says(5, 0), 3);
        x.gone(20);
        due("of how many now", x.says(5, 0), 2);
        FeatureDesk y = persons(4);
        y.feature(1);
        rule(y, 0, "#1-3&#2-4:1");
        rule(y, 0, "#1-1|#1-4:1");
        y.show(0, 0, 0, 0);
        y.show(1, 0, 1, 0);
        due("one of both", y.says(0, 7), 2);
        due("of how many both", y.says(1, 8), 1);
        rule(y, 0, "#1-4|#1-1:1");
        y.show(1, 0, 2, 0);
        due("of how many both", y.says(1, 8), 1);
        x.row(6, 0, 4);
        due("a row", x.says(6, 0), OTHER);
        due("nothing", x.says(7, 0), NOTHING);
        due("no kind", x.says(0, 9), BAD);
        due("no kind", x.says(0, -1), BAD);
        due("no shelf", x.says(8, 0), BAD);
        due("no shelf", x.says(-1, 0), BAD);
        int[][] fits = {{0, 2, 8}, {0, 2, 7}, {0, 3}, {0, 1, 5}, {0, 1, 6}, {0, 1, 4}};
        for (int s = 0; s < fits.length; s++) {
            for (int kind = 0; kind <= 8; kind++) {
                boolean fit = false;
                for (int k : fits[s]) {
                    fit |= k == kind;
                }
                due("shelf " + s + " taken for " + kind, x.says(s, kind) == OTHER ? 0 : 1, fit ? 1 : 0);
            }
        }
    }

    private static void promise9() {
        promise = 9;
        FeatureDesk x = new FeatureDesk();
        due("feed", x.feed(0), 1);
        due("feed", x.feed(255), 2);
        due("no byte", x.feed(256), BAD);
        due("no byte", x.feed(-1), BAD);
        for (int i = 3; i <= 250; i++) {
            due("feed", x.feed(42), i);
        }
        due("full", x.feed(42), FULL);
        due("no byte, ahead of full", x.feed(300), BAD);
        due("size", x.status(8), 250);
    }

    private static void promise10() {
        promise = 10;
        FeatureDesk x = new FeatureDesk();
        due("wipe", x.wipe(), 0);
        feed(x, "abc");
        due("wipe", x.wipe(), 3);
        due("size", x.status(8), 0);
        due("feed", x.feed(1), 1);
    }

    private static void personToBucket() {
        promise11();
        promise12();
        promise13();
        promise14();
        promise15();
    }

    private static void promise11() {
        promise = 11;
        FeatureDesk x = new FeatureDesk();
        due("person", x.person(0, 0), 1);
        due("person", x.person(999999, 9999), 2);
        due("other attributes", x.person(0, 17), 2);
        due("attributes", x.attributes(0), 17);
        due("stays first", x.personOf(0), 0);
        due("no key", x.person(-1, 0), BAD);
        due("no key", x.person(1000000, 0), BAD);
        due("no attributes", x.person(5, -1), BAD);
        due("no attributes", x.person(0, 10000), BAD);
        due("as they were", x.attributes(0), 17);
        for (int key = 3; key <= 24; key++) {
            due("person", x.person(key, 0), key);
        }
        due("full", x.person(77, 0), FULL);
        due("bad, ahead of full", x.person(77, 10000), BAD);
        due("one that is there", x.person(24, 5), 24);
        due("attributes", x.attributes(24), 5);
    }

    private static void promise12() {
        promise = 12;
        FeatureDesk x = persons(4);
        x.feature(2);
        x.override(0, 2, 2);
        x.override(0, 3, 1);
        x.tell(0, 1, 1);
        rule(x, 0, "*%333,333,0");
        x.ask(0, 1);
        x.ask(0, 4);
        due("gone", x.gone(2), 3);
        due("the next comes nearer", x.personOf(1), 3);
        due("its override goes along", x.featureOf(0, 6), 1);
        due("others' overrides stay", x.by(0, 1), 2);
        due("what is kept stays", x.by(0, 5), 5);
        due("gone", x.gone(1), 2);
        due("what is kept for it goes along", x.featureOf(0, 9), 1);
        due("gone twice", x.gone(1), BAD);
        due("no key", x.gone(-1), BAD);
        FeatureDesk y = persons(24);
        y.feature(1);
        y.override(0, 24, 1);
        y.override(0, 23, 0);
        y.person(3, 33);
        due("gone", y.gone(1), 23);
        due("the last ones' overrides", y.by(0, 1), 0x600000);
        due("the last one's override", y.would(0, 24, 0), 1);
        due("attributes come nearer, too", y.attributes(3), 33);
        due("attributes come nearer, too", y.attributes(2), 0);
        due("gone", y.gone(24), 22);
        due("overrides", y.featureOf(0, 6), 1);
        due("one more", y.person(77, 0), 23);
        due("has no override", y.override(0, 77, NONE), NONE);
        FeatureDesk z = new FeatureDesk();
        for (int key = 0; key < 5; key++) {
            z.person(key, 10 * key);
        }
        z.gone(2);
        for (int i = 0; i < 4; i++) {
            int key = i < 2 ? i : i + 1;
            due("KEY", z.personOf(i), key);
            due("ATTRIBUTES", z.attributes(key), 10 * key);
        }
        due("comes again", x.person(1, 0), 3);
        due("behind the others", x.personOf(2), 1);
        due("with nothing kept", x.kept(0, 1), NONE);
        x.person(2, 0);
        due("without an override", x.override(0, 2, NONE), NONE);
    }

    private static void promise13() {
        promise = 13;
        FeatureDesk x = persons(2);
        due("first", x.personOf(0), 1);
        due("second", x.personOf(1), 2);
        due("none", x.personOf(2), BAD);
        due("none", x.personOf(-1), BAD);
        due("none", x.personOf(HIGH), BAD);
    }

    private static void promise14() {
        promise = 14;
        FeatureDesk x = new FeatureDesk();
        x.person(5, 9876);
        due("attributes", x.attributes(5), 9876);
        due("no person", x.attributes(6), BAD);
        due("no key", x.attributes(-1), BAD);
    }

    private static void promise15() {
        promise = 15;
        FeatureDesk x = new FeatureDesk();
        int[][] buckets = {{0, 0, 0}, {0, 1, 747}, {1, 42, 821}, {1, 1, 88}, {2, 1, 654}, {3, 12, 431}, {100, 999999, 161},
            {101, 0, 582}, {200, 0, 822}, {200, 999999, 181}};
        for (int[] b : buckets) {
            due("bucket " + b[0] + " of " + b[1], x.bucket(b[0], b[1]), b[2]);
        }
        due("no salt", x.bucket(-1, 1), BAD);
        due("no salt", x.bucket(201, 1), BAD);
        due("no key", x.bucket(1, -1), BAD);
        due("no key", x.bucket(1, 1000000), BAD);
    }

    private static void featureToPart() {
        promise16();
        promise17();
        promise18();
        promise18OfTexts();
        promise19();
        promise20();
    }

    private static void promise16() {
        promise = 16;
        FeatureDesk x = new FeatureDesk();
        due("no variants", x.feature(0), BAD);
        due("too many variants", x.feature(4), BAD);
        for (int i = 0; i < 12; i++) {
            due("feature", x.feature(1 + i % 3), i);
        }
        due("full", x.feature(1), FULL);
        due("bad, ahead of full", x.feature(-1), BAD);
        due("variants", x.featureOf(11, 0), 3);
        due("features", x.status(1), 12);
        int[] at = {0, 0, 0, 0, 0, 0, NONE, 0, 0};
        for (int what = 1; what <= 9; what++) {
            due("at first, " + what, x.featureOf(5, what), at[what - 1]);
        }
    }

    private static void promise17() {
        promise = 17;
        FeatureDesk x = persons(1);
        x.feature(2);
        due("killed", x.tell(0, 0, 1), 0);
        due("killed", x.tell(0, 0, 1), 1);
        due("is killed", x.would(0, 1, 1), 2);
        due("not killed", x.tell(0, 0, 0), 1);
        due("sticky", x.tell(0, 1, 1), 0);
        due("sticky", x.featureOf(0, 2), 1);
        due("fallback", x.tell(0, 2, 2), 0);
        due("fallback", x.tell(0, 2, 1), 2);
        due("falls back", x.would(0, 1, 0), 1);
        due("no variant", x.tell(0, 2, 3), BAD);
        due("no variant", x.tell(0, 2, -1), BAD);
        due("neither 0 nor 1", x.tell(0, 0, 2), BAD);
        due("neither 0 nor 1", x.tell(0, 1, -1), BAD);
        due("no such thing", x.tell(0, 3, 0), BAD);
        due("no such thing", x.tell(0, -1, 0), BAD);
        due("no feature", x.tell(1, 0, 0), BAD);
        due("no feature", x.tell(-1, 0, 0), BAD);
        due("nothing came of it", x.featureOf(0, 3), 1);
    }

    private static void promise18() {
        promise = 18;
        FeatureDesk x = persons(1);
        feed(x, "*:1");
        due("no feature", x.rule(0), BAD);
        due("the tape is empty", x.status(8), 0);
        x.feature(1);
        for (int i = 0; i < 6; i++) {
            dueRule(x, 0, "*:1", i);
        }
        dueRule(x, 0, "*:1", FULL);
        dueRule(x, 0, "*;1", -501);
        dueRule(x, 0, "", -500);
        dueRule(x, 1, "", BAD);
        dueRule(x, -1, "*:1", BAD);
        due("faults are refusals", x.status(12), 5);
        due("full", x.status(16), 1);
        due("rules", x.featureOf(0, 4), 6);
        FeatureDesk deep = persons(3);
        deep.feature(1);
        dueRule(deep, 0, "!".repeat(247) + "*:1", 0);
        due("so for none", deep.so(0, 0), 0);
        due("so(0, 0) says", deep.reach(0, 1), 0);
        dueRule(deep, 0, "(".repeat(123) + "*" + ")".repeat(123) + ":1", 1);
        due("so for all", deep.so(0, 1), 7);
        due("letter", deep.spelled(0, 1, 0), '*');
        due("letter", deep.spelled(0, 0, 246), '!');
        due("letter", deep.spelled(0, 0, 249), '1');
        due("letter", deep.spelled(0, 0, 250), NONE);
        FeatureDesk far = persons(3);
        far.feature(1);
        dueRule(far, 0, "!(".repeat(82) + "*" + ")".repeat(82) + ":1", 0);
        dueRule(far, 0, "*&(".repeat(61) + "*" + ")".repeat(61) + ":1", 1);
        due("so", far.so(0, 0), 7);
        due("so", far.so(0, 1), 7);
    }

    private static void promise18OfTexts() {
        String[] texts = {"", "(", "!", "a", "a<", "a<3", "a<3:", "#", "#5", "#5-", "#5-6", "*%", "*%1", "*%1,", "*%1,1,", "(*", "(*)",
            "*&", "*|"};
        for (String text : texts) {
            dueFault(2, text, text.length());
        }
        dueFault(2, "e=3:1", 0);
        dueFault(2, "a-3:1", 1);
        dueFault(2, "a<x:1", 2);
        dueFault(2, "a<33:1", 3);
        dueFault(2, "*:3", 2);
        dueFault(2, "*:x", 2);
        dueFault(2, "*:11", 3);
        dueFault(2, "*:1 ", 3);
        dueFault(2, " *:1", 0);
        dueFault(2, ":1", 0);
        dueFault(2, "*)", 1);
        dueFault(2, "*):1", 1);
        dueFault(2, "(*:1", 2);
        dueFault(2, "(*%1,1,0", 2);
        dueFault(2, "():1", 1);
        dueFault(2, "*!*:1", 1);
        dueFault(2, "**:1", 1);
        dueFault(2, "*&&*:1", 2);
        dueFault(2, "*&|*:1", 2);
        dueFault(2, "*|)", 2);
        dueFault(2, "#x-1:1", 1);
        dueFault(2, "#1x1:1", 2);
        dueFault(2, "#1-:1", 3);
        dueFault(2, "#5-4:1", 3);
        dueFault(2, "#5-4", 3);
        dueFault(2, "#1234567-9:1", 7);
        dueFault(2, "#1-1234567:1", 9);
        dueFault(2, "#900000-1000000:1", 8);
        dueFault(2, "*%334,0,0", 2);
        dueFault(2, "*%334", 2);
        dueFault(2, "*%3340,0,0", 2);
        dueFault(2, "*%0000,0,0", 5);
        dueFault(2, "*%1,334,0", 4);
        dueFault(2, "*%1,2,3", 6);
        dueFault(1, "*%1,2,0", 4);
        dueFault(1, "*%1,001,0", 4);
        dueFault(2, "*%1,2,0,", 7);
        dueFault(2, "*%1,2,0|", 7);
        dueFault(2, "*%1;2,0", 3);
        dueFault(2, "*%,2,0", 2);
        FeatureDesk x = new FeatureDesk();
        x.feature(3);
        x.feature(1);
        dueRule(x, 0, "#000000-999999%333,000,1", 0);
        dueRule(x, 0, "#7-7:3", 1);
        dueRule(x, 1, "*%001,00,0", 0);
        dueRule(x, 1, "!!!a<0&(b=9|c>5&d=0):0", 1);
        dueRule(x, 0, "((!!*&*|(a=1&!", -514);
        dueRule(x, 0, "*&*)", -503);
        dueRule(x, 0, "!#1-2&c=1|*:1", 2);
        due("nothing is left of the faulty ones", spelling(x, 0, 2).equals("!#1-2&c=1|*:1") ? 1 : 0, 1);
        x.feed(200);
        due("a byte above 127", x.rule(0), -500);
        feed(x, "*");
        x.feed(0);
        due("a byte 0", x.rule(0), -501);
    }

    private static void dueFault(int top, String text, int place) {
        FeatureDesk x = new FeatureDesk();
        x.feature(top);
        dueRule(x, 0, text, -500 - place);
        due("refused as BAD", x.status(12), 1);
        due("no rule", x.status(2), 0);
    }

    private static void promise19() {
        promise = 19;
        FeatureDesk x = persons(1);
        x.feature(3);
        rule(x, 0, "#2-2:1");
        rule(x, 0, "*:2");
        rule(x, 0, "*%1,2,3");
        due("drop", x.drop(0, 0), 2);
        due("nearer by one", x.would(0, 1, 2), 0);
        due("its variant", x.would(0, 1, 0), 2);
        due("fixed", x.part(0, 0, 1, 1), STUCK);
        due("its part", x.part(0, 1, 3, 4), 3);
        due("no rule", x.drop(0, 2), BAD);
        due("no rule", x.drop(0, -1), BAD);
        due("no feature", x.drop(1, 0), BAD);
        due("drop the last", x.drop(0, 1), 1);
        due("drop", x.drop(0, 0), 0);
        due("falls back", x.would(0, 1, 1), 7);
        due("none left", x.drop(0, 0), BAD);
        rule(x, 0, "*%9,0,0");
        due("a new one has its own parts", x.part(0, 0, 3, 1), 0);
        x.drop(0, 0);
        for (int i = 0; i < 6; i++) {
            rule(x, 0, "*%" + i + ",0,0");
        }
        due("the second of six", x.drop(0, 1), 5);
        int[] rest = {0, 2, 3, 4, 5};
        for (int i = 0; i < 5; i++) {
            due("PART", x.part(0, i, 1, rest[i]), rest[i]);
        }
        due("a sixth again", rule(x, 0, "*:1"), 5);
    }

    private static void promise20() {
        promise = 20;
        FeatureDesk x = persons(1);
        x.feature(2);
        rule(x, 0, "*%10,20,0");
        rule(x, 0, "*:1");
        due("what it was", x.part(0, 0, 1, 89), 10);
        due("bucket 88 is in", x.would(0, 1, 0), 1);
        due("what it was", x.part(0, 0, 1, 88), 89);
        due("bucket 88 is out", x.would(0, 1, 0), 0);
        due("the second", x.part(0, 0, 2, 333), 20);
        due("0", x.part(0, 0, 2, 0), 333);
        due("no part", x.part(0, 0, 1, 334), BAD);
        due("no part", x.part(0, 0, 1, -1), BAD);
        due("no variant 0", x.part(0, 0, 0, 1), BAD);
        due("no variant 3", x.part(0, 0, 3, 0), BAD);
        due("no rule", x.part(0, 2, 1, 1), BAD);
        due("no feature", x.part(1, 0, 1, 1), BAD);
        due("fixed", x.part(0, 1, 1, 1), STUCK);
        due("bad, ahead of fixed", x.part(0, 1, 3, 1), BAD);
        FeatureDesk y = new FeatureDesk();
        int[] keys = {1, 4, 999999};
        for (int key : keys) {
            y.person(key, 0);
        }
        y.feature(3);
        rule(y, 0, "*%89,167,303");
        due("variant 1 in 0 to 88", y.by(0, 6) + y.reach(0, 1), 8);
        due("variant 2 in 333 to 499", y.would(0, 4, 0), 2);
        due("variant 3 in 666 to 968", y.would(0, 999999, 0), 3);
        int[] edges = {662, 527, 1572, 316, 1023, 248, 929};
        int[] variants = {1, 1, 2, 2, 3, 3, 0};
        y.part(0, 0, 1, 333);
        y.part(0, 0, 2, 333);
        y.part(0, 0, 3, 333);
        for (int i = 0; i < edges.length; i++) {
            y.person(edges[i], 0);
            due("at the edge, " + y.bucket(1, edges[i]), y.would(0, edges[i], 0), variants[i]);
        }
        y.part(0, 0, 2, 0);
        due("a part of 0", y.would(0, 1572, 0), 0);
        y.part(0, 0, 2, 1);
        due("a part of 1", y.would(0, 1572, 0), 2);
        y.part(0, 0, 2, 166);
        y.part(0, 0, 3, 302);
        due("499 is out", y.would(0, 4, 0), 0);
        due("968 is out", y.would(0, 999999, 0), 0);
    }

    private static void needsToPass() {
        promise21();
        promise22();
        promise23();
        promise24();
        promise25();
        promise26();
    }

    private static void promise21() {
        promise = 21;
        FeatureDesk x = persons(1);
        for (int i = 0; i < 6; i++) {
            x.feature(1 + i % 2);
        }
        due("needs", x.needs(0, 1, 2), 1);
        due("what it needs is not so", x.would(0, 1, 1), 3);
        due("NUMBER", x.would(0, 1, 2), 1);
        due("needs", x.needs(0, 2, 0), 2);
        due("needs", x.needs(0, 2, 1), 3);
        due("full", x.needs(0, 3, 0), FULL);
        due("itself, ahead of full", x.needs(0, 0, 0), STUCK);
        due("needs", x.needs(1, 3, 0), 1);
        due("needs", x.needs(3, 4, 0), 1);
        due("itself by others", x.needs(4, 0, 0), STUCK);
        due("itself by one", x.needs(1, 0, 0), STUCK);
        due("no variant", x.needs(4, 5, 3), BAD);
        due("no variant", x.needs(5, 4, 2), BAD);
        due("no variant", x.needs(4, 5, -1), BAD);
        due("no feature", x.needs(4, 6, 0), BAD);
        due("no feature", x.needs(6, 4, 0), BAD);
        due("bad, ahead of itself", x.needs(0, 0, 7), BAD);
        due("all", x.status(3), 5);
        FeatureDesk y = persons(1);
        y.feature(1);
        y.feature(1);
        y.feature(1);
        y.needs(2, 0, 0);
        y.needs(2, 1, 1);
        due("the first in order that isn't so", y.would(2, 1, 2), 1);
        y.tell(1, 2, 1);
        due("all so", y.would(2, 1, 1), 7);
        FeatureDesk chain = persons(1);
        for (int i = 0; i < 12; i++) {
            chain.feature(1);
        }
        for (int i = 11; i > 0; i--) {
            chain.needs(i, i - 1, 1);
            chain.tell(i, 2, 1);
        }
        due("the long chain is off", chain.would(11, 1, 0), 0);
        chain.tell(0, 2, 1);
        due("the long chain is on", chain.would(11, 1, 0), 1);
        due("no ring of twelve", chain.needs(0, 11, 1), STUCK);
    }

    private static void promise22() {
        promise = 22;
        FeatureDesk x = persons(1);
        x.feature(1);
        x.feature(1);
        due("none", x.free(0), 0);
        x.needs(0, 1, 1);
        x.needs(0, 1, 1);
        due("were", x.free(0), 2);
        due("are no more", x.featureOf(0, 5), 0);
        due("nothing is needed", x.would(0, 1, 1), 7);
        due("the other way round now", x.needs(1, 0, 1), 1);
        due("no feature", x.free(2), BAD);
        due("no feature", x.free(-1), BAD);
    }

    private static void promise23() {
        promise = 23;
        FeatureDesk x = persons(10);
        x.feature(2);
        x.tell(0, 0, 1);
        due("no override, none wanted", x.override(0, 1, NONE), NONE);
        due("override", x.override(0, 1, 2), NONE);
        due("ahead of killed", x.would(0, 1, 0), 2);
        due("REASON", x.would(0, 1, 1), 1);
        due("NUMBER", x.would(0, 1, 2), NONE);
        due("what it was", x.override(0, 1, 0), 2);
        due("to 0 is one, too", x.featureOf(0, 6), 1);
        for (int key = 2; key <= 8; key++) {
            due("override", x.override(0, key, 1), NONE);
        }
        due("full", x.override(0, 9, 1), FULL);
        due("none, when full", x.override(0, 9, NONE), NONE);
        due("one that is there", x.override(0, 8, 2), 1);
        due("none of it", x.override(0, 8, NONE), 2);
        due("now there is room", x.override(0, 9, 1), NONE);
        due("no variant", x.override(0, 1, 3), BAD);
        due("no variant", x.override(0, 1, -2), BAD);
        due("no person", x.override(0, 11, 1), BAD);
        due("no feature", x.override(1, 1, 1), BAD);
        due("bad, ahead of full", x.override(0, 10, 3), BAD);
        due("refusals", x.status(12), 5);
    }

    private static void promise24() {
        promise = 24;
        FeatureDesk x = persons(1);
        x.feature(1);
        x.feature(1);
        due("layer", x.layer(0, 1, 772, 772), 1);
        due("bucket 772 is in", x.would(0, 1, 1), 7);
        due("layer", x.layer(0, 1, 773, 999), 1);
        due("bucket 772 is out", x.would(0, 1, 1), 4);
        due("NUMBER", x.would(0, 1, 2), 1);
        due("layer", x.layer(0, 1, 0, 771), 1);
        due("bucket 772 is out", x.would(0, 1, 1), 4);
        due("one has it", x.layer(1, 1, 771, 999), STUCK);
        due("one has it", x.layer(1, 1, 0, 0), STUCK);
        due("one has it", x.layer(1, 1, 5, 6), STUCK);
        due("one has it", x.layer(1, 1, 0, 999), STUCK);
        due("in another layer", x.layer(1, 0, 0, 999), 1);
        due("beside it", x.layer(1, 1, 772, 999), 1);
        due("its own again", x.layer(1, 1, 800, 900), 1);
        due("one has it", x.layer(0, 1, 0, 800), STUCK);
        due("as it was", x.featureOf(0, 8), 772);
        due("none", x.layer(1, NONE, -5, -9), 1);
        due("LAYER", x.featureOf(1, 7), NONE);
        due("BUCKETS", x.featureOf(1, 8), 0);
        due("free now", x.layer(0, 1, 0, 800), 1);
        due("no layer", x.layer(1, 4, 0, 1), BAD);
        due("no layer", x.layer(1, -2, 0, 1), BAD);
        due("no bucket", x.layer(1, 3, -1, 1), BAD);
        due("no bucket", x.layer(1, 3, 1, 1000), BAD);
        due("from above to", x.layer(1, 3, 2, 1), BAD);
        due("no feature", x.layer(2, NONE, 0, 1), BAD);
        due("bad, ahead of stuck", x.layer(1, 1, 0, 1000), BAD);
    }

    private static void promise25() {
        promise = 25;
        FeatureDesk x = persons(1);
        x.feature(2);
        x.pass(10);
        due("step", x.step(10, 0, 5, 1, 0), 1);
        due("step", x.step(1000000, 0, 0, 2, 333), 2);
        due("below NOW", x.step(9, 0, 0, 1, 0), BAD);
        due("above", x.step(1000001, 0, 0, 1, 0), BAD);
        due("no feature", x.step(10, 1, 0, 1, 0), BAD);
        due("no rule", x.step(10, 0, 6, 1, 0), BAD);
        due("no rule", x.step(10, 0, -1, 1, 0), BAD);
        due("no variant", x.step(10, 0, 0, 0, 0), BAD);
        due("no variant", x.step(10, 0, 0, 3, 0), BAD);
        due("no part", x.step(10, 0, 0, 1, 334), BAD);
        due("no part", x.step(10, 0, 0, 1, -1), BAD);
        for (int i = 3; i <= 24; i++) {
            due("step", x.step(50, 0, 0, 1, i), i);
        }
        due("full", x.step(50, 0, 0, 1, 1), FULL);
        due("bad, ahead of full", x.step(50, 0, 0, 1, 334), BAD);
        due("of NOW, with the next pass", x.pass(0), 1);
        due("steps", x.status(4), 23);
        due("step", x.step(50, 0, 0, 1, 1), 24);
    }

    private static void promise26() {
        promise = 26;
        FeatureDesk x = persons(1);
        x.feature(2);
        rule(x, 0, "*%0,0,0");
        rule(x, 0, "*:1");
        x.step(5, 0, 0, 1, 100);
        x.step(3, 0, 0, 1, 333);
        x.step(5, 0, 0, 1, 20);
        x.step(4, 0, 1, 1, 7);
        x.step(4, 0, 2, 1, 7);
        x.step(6, 0, 0, 2, 9);
        due("none", x.pass(2), 0);
        due("one", x.pass(1), 1);
        due("333", x.part(0, 0, 1, 1), 333);
        due("of several, as they were told; of no rule, of a fixed one they are done, too", x.pass(2), 4);
        due("20", x.part(0, 0, 1, 20), 20);
        due("NOW", x.status(5), 5);
        due("the fixed one", x.would(0, 1, 2), 0);
        due("too long", x.pass(1000), BAD);
        due("back", x.pass(-1), BAD);
        due("long", x.pass(999), 1);
        due("9", x.part(0, 0, 2, 0), 9);
        due("NOW", x.status(5), 1004);
        due("steps", x.status(4), 0);
        x.feature(3);
        for (int i = 0; i < 3; i++) {
            rule(x, 1, "*%0,0,0");
        }
        x.step(1004, 1, 1, 2, 22);
        x.step(1004, 1, 2, 3, 33);
        x.step(1004, 1, 0, 1, 11);
        x.step(1006, 0, 0, 1, 1);
        due("of each feature, rule and variant its own", x.pass(0), 3);
        for (int i = 0; i < 3; i++) {
            due("PART", x.part(1, i, i + 1, 0), 11 * (i + 1));
        }
        due("the one behind them", x.pass(2), 1);
        due("PART", x.part(0, 0, 1, 0), 1);
        x.step(1010, 0, 0, 1, 50);
        x.step(1007, 0, 0, 1, 60);
        due("both, by times", x.pass(20), 2);
        due("50", x.part(0, 0, 1, 0), 50);
        x.step(1030, 0, 1, 1, 70);
        x.drop(0, 0);
        rule(x, 0, "*%1,0,0");
        due("steps stay as told", x.pass(20), 1);
        due("70, of the rule that is there then", x.part(0, 1, 1, 0), 70);
        due("NOW", x.status(5), 1046);
    }

    private static void askToCounted() {
        promise27();
        promise28();
        promise29();
        promise30();
        promise31();
        promise32();
    }

    private static void promise27() {
        promise = 27;
        FeatureDesk x = persons(5);
        x.feature(2);
        x.feature(1);
        rule(x, 0, "#5-5:2");
        rule(x, 0, "*%168,167,0");
        due("ask", x.ask(0, 1), 1);
        due("not sticky, not kept", x.kept(0, 1), NONE);
        x.tell(0, 1, 1);
        due("ask", x.ask(0, 1), 1);
        due("kept", x.kept(0, 1), 1);
        due("bucket 168 is out", x.ask(0, 2), 0);
        due("0 is not kept", x.kept(0, 2), NONE);
        due("variant 2", x.ask(0, 4), 2);
        due("kept", x.kept(0, 4), 2);
        due("by a fixed rule", x.ask(0, 5), 2);
        due("is not kept", x.kept(0, 5), NONE);
        x.part(0, 1, 1, 0);
        x.part(0, 1, 2, 0);
        due("sticks", x.ask(0, 1), 1);
        due("sticks", x.ask(0, 4), 2);
        x.drop(0, 1);
        due("sticks without its rule", x.would(0, 1, 1), 5);
        x.tell(0, 1, 0);
        due("sticks when no more are kept", x.ask(0, 1), 1);
        x.tell(0, 2, 1);
        x.tell(0, 1, 1);
        due("fallback", x.ask(0, 2), 1);
        due("is not kept", x.kept(0, 2), NONE);
        x.override(0, 3, 1);
        due("override", x.ask(0, 3), 1);
        due("is not kept", x.kept(0, 3), NONE);
        due("asked", x.status(7), 10);
        x.needs(1, 0, 1);
        x.tell(1, 2, 1);
        rule(x, 0, "*%333,0,0");
        due("by a need", x.ask(1, 2), 1);
        due("nothing of what it needs is kept", x.kept(0, 2), NONE);
        due("nor counted", x.counted(0, 1), 6);
        due("no person", x.ask(0, 6), BAD);
        due("no feature", x.ask(2, 1), BAD);
        due("no feature", x.ask(-1, 1), BAD);
        due("not asked", x.status(7), 11);
    }

    private static void promise28() {
        promise = 28;
        FeatureDesk x = persons(3);
        x.feature(2);
        x.feature(2);
        x.tell(0, 2, 2);
        due("VARIANT", x.would(0, 1, 0), 2);
        due("REASON", x.would(0, 1, 1), 7);
        due("NUMBER", x.would(0, 1, 2), NONE);
        due("PATH", x.would(0, 1, 3), 1);
        x.layer(0, 3, 0, 0);
        x.tell(0, 1, 1);
        rule(x, 0, "*:1");
        rule(x, 0, "*%333,333,0");
        due("layer", x.would(0, 1, 1), 4);
        due("NUMBER", x.would(0, 1, 2), 3);
        due("VARIANT", x.would(0, 1, 0), 0);
        x.layer(0, NONE, 0, 0);
        due("the first rule", x.would(0, 1, 2), 0);
        x.drop(0, 0);
        x.ask(0, 1);
        due("kept", x.would(0, 1, 1), 5);
        due("NUMBER", x.would(0, 1, 2), NONE);
        x.layer(0, 3, 0, 0);
        due("layer, ahead of kept", x.would(0, 1, 1), 4);
        x.needs(0, 1, 1);
        due("need, ahead of layer", x.would(0, 1, 1), 3);
        due("NUMBER", x.would(0, 1, 2), 1);
        due("PATH", x.would(0, 1, 3), 2);
        x.tell(0, 0, 1);
        due("killed, ahead of need", x.would(0, 1, 1), 2);
        due("NUMBER", x.would(0, 1, 2), NONE);
        due("PATH", x.would(0, 1, 3), 1);
        x.override(0, 1, 1);
        due("override, ahead of killed", x.would(0, 1, 1), 1);
        due("nothing is counted", x.status(7), 1);
        due("no such thing", x.would(0, 1, 4), BAD);
        due("no such thing", x.would(0, 1, -1), BAD);
        due("no person", x.would(0, 4, 0), BAD);
        due("no feature", x.would(2, 1, 0), BAD);
        due("NONE isn't refused", x.status(12), 4);
    }

    private static void promise29() {
        promise = 29;
        FeatureDesk x = persons(1);
        for (int i = 0; i < 5; i++) {
            x.feature(2);
            x.tell(i, 2, 1);
        }
        x.needs(4, 3, 1);
        x.needs(4, 1, 1);
        x.needs(4, 2, 1);
        x.needs(3, 0, 1);
        x.needs(1, 0, 1);
        int[] order = {0, 3, 1, 2, 4};
        for (int i = 0; i < order.length; i++) {
            due("FEATURE", x.path(4, 1, i, 0), order[i]);
            due("REASON", x.path(4, 1, i, 1), 7);
            due("NUMBER", x.path(4, 1, i, 2), NONE);
            due("VARIANT", x.path(4, 1, i, 3), 1);
        }
        due("length", x.would(4, 1, 3), 5);
        due("no such place", x.path(4, 1, 5, 0), BAD);
        due("no such place", x.path(4, 1, -1, 0), BAD);
        x.tell(0, 0, 1);
        int[][] path = {{0, 2, NONE, 0}, {3, 3, 0, 0}, {4, 3, 3, 0}};
        for (int i = 0; i < path.length; i++) {
            for (int what = 0; what < 4; what++) {
                due("path " + i + " " + what, x.path(4, 1, i, what), path[i][what]);
            }
        }
        due("no more is looked at", x.path(4, 1, 3, 0), BAD);
        due("no such thing", x.path(4, 1, 0, 4), BAD);
        due("no such thing", x.path(4, 1, 0, -1), BAD);
        due("no person", x.path(4, 2, 0, 0), BAD);
        due("no feature", x.path(5, 1, 0, 0), BAD);
        x.override(3, 1, 1);
        due("with an override no need is looked at", x.path(4, 1, 0, 0), 3);
    }

    private static void promise30() {
        promise = 30;
        FeatureDesk x = persons(2);
        x.feature(2);
        rule(x, 0, "*%0,0,0");
        x.pass(10);
        x.step(20, 0, 0, 1, 89);
        x.step(30, 0, 0, 1, 0);
        x.step(10, 0, 0, 1, 89);
        x.step(15, 0, 0, 1, 88);
        due("those of NOW, too", x.later(0, 1, 10), 1);
        due("then less", x.later(0, 1, 15), 0);
        due("just ahead", x.later(0, 1, 19), 0);
        due("then", x.later(0, 1, 20), 1);
        due("of another person", x.later(0, 2, 20), 0);
        due("then 0", x.later(0, 1, 30), 0);
        due("far", x.later(0, 1, 10009), 0);
        due("too far", x.later(0, 1, 10010), BAD);
        due("below NOW", x.later(0, 1, 9), BAD);
        due("lowest", x.later(0, 1, LOW), BAD);
        due("no person", x.later(0, 3, 20), BAD);
        due("no feature", x.later(1, 1, 20), BAD);
        due("nothing is changed", x.would(0, 1, 0), 0);
        due("steps", x.status(4), 4);
        due("NOW", x.status(5), 10);
    }

    private static void promise31() {
        promise = 31;
        FeatureDesk x = persons(5);
        x.feature(2);
        rule(x, 0, "#5-5:2");
        rule(x, 0, "*%169,0,0");
        due("0", x.reach(0, 0), 2);
        due("1", x.reach(0, 1), 2);
        due("2", x.reach(0, 2), 1);
        due("no variant", x.reach(0, 3), BAD);
        due("no variant", x.reach(0, -1), BAD);
        due("no feature", x.reach(1, 0), BAD);
        due("nothing is counted", x.status(7), 0);
    }

    private static void promise32() {
        promise = 32;
        FeatureDesk x = persons(1);
        x.feature(2);
        x.feature(3);
        x.ask(0, 1);
        x.ask(0, 1);
        x.tell(0, 2, 2);
        x.ask(0, 1);
        due("0", x.counted(0, 0), 2);
        due("1", x.counted(0, 1), 0);
        due("2", x.counted(0, 2), 1);
        due("of another", x.counted(1, 3), 0);
        x.tell(1, 2, 3);
        x.ask(1, 1);
        due("the greatest", x.counted(1, 3), 1);
        due("no variant", x.counted(0, 3), BAD);
        due("no variant", x.counted(0, -1), BAD);
        due("no feature", x.counted(2, 0), BAD);
    }

    private static void byToNeeded() {
        promise33();
        promise34();
        promise35();
        promise36();
        promise37();
        promise38();
        promise39();
    }

    private static void promise33() {
        promise = 33;
        FeatureDesk x = persons(24);
        x.feature(1);
        due("all", x.by(0, 7), 0xffffff);
        x.override(0, 24, 0);
        due("the last", x.by(0, 1), 0x800000);
        rule(x, 0, "#1-3:0");
        due("by rule", x.by(0, 6), 7);
        due("the rest", x.by(0, 7), 0x7ffff8);
        due("by need", x.by(0, 3), 0);
        due("no reason", x.by(0, 0), BAD);
        due("no reason", x.by(0, 8), BAD);
        due("no feature", x.by(1, 1), BAD);
    }

    private static void promise34() {
        promise = 34;
        FeatureDesk x = new FeatureDesk();
        x.person(10, 1234);
        x.person(20, 5678);
        x.person(30, 4);
        x.feature(1);
        String[] texts = {"a=1", "b<3", "c>3", "d=4", "#10-20", "#11-30", "!a=0", "*", "a=0|b=6&c=0", "(a=0|b=6)&c=0", "!b=2&d=4",
            "!(b=2&d=4)", "a>5", "d<4", "#30-30", "a=0"};
        int[] want = {1, 5, 2, 5, 3, 6, 3, 7, 4, 4, 4, 6, 0, 0, 4, 4};
        for (int i = 0; i < texts.length; i++) {
            rule(x, 0, texts[i] + ":1");
            due("so " + texts[i], x.so(0, 0), want[i]);
            x.drop(0, 0);
        }
        int[] digits = {0, 999, 1000, 9, 10, 99, 100, 9899, 9900, 9989, 9990, 9999};
        FeatureDesk y = new FeatureDesk();
        y.feature(1);
        for (int i = 0; i < digits.length; i++) {
            y.person(i, digits[i]);
        }
        String[] tests = {"a=0", "a=1", "a=9", "b=0", "b=1", "b=8", "b=9", "c=0", "c=1", "c=8", "c=9", "d=0", "d=9", "a>8", "a<1"};
        for (String test : tests) {
            int bits = 0;
            for (int i = 0; i < digits.length; i++) {
                int digit = String.format("%04d", digits[i]).charAt(test.charAt(0) - 'a') - '0';
                int told = test.charAt(2) - '0';
                boolean so = test.charAt(1) == '=' ? digit == told : test.charAt(1) == '<' ? digit < told : digit > told;
                bits |= so ? 1 << i : 0;
            }
            rule(y, 0, test + ":1");
            due("so " + test, y.so(0, 0), bits);
            y.drop(0, 0);
        }
        rule(x, 0, "*:1");
        x.tell(0, 0, 1);
        due("the condition alone", x.so(0, 0), 7);
        due("no rule", x.so(0, 1), BAD);
        due("no rule", x.so(0, -1), BAD);
        due("no feature", x.so(1, 0), BAD);
    }

    private static void promise35() {
        promise = 35;
        FeatureDesk x = persons(5);
        x.feature(2);
        rule(x, 0, "*%0,0,0");
        rule(x, 0, "*:1");
        due("none wanted", x.grow(0, 0, 1, 0), 0);
        due("one", x.grow(0, 0, 1, 1), 89);
        due("two", x.grow(0, 0, 1, 2), 169);
        due("three", x.grow(0, 0, 1, 3), 215);
        due("four", x.grow(0, 0, 1, 4), 218);
        due("never five", x.grow(0, 0, 1, 5), NONE);
        due("of variant 2", x.grow(0, 0, 2, 1), 167);
        due("never two", x.grow(0, 0, 2, 2), NONE);
        x.part(0, 0, 1, 333);
        due("from 0, whatever it is", x.grow(0, 0, 1, 1), 89);
        due("nothing is changed", x.part(0, 0, 1, 0), 333);
        x.override(0, 4, 1);
        due("one has it anyhow", x.grow(0, 0, 1, 1), 0);
        due("and one more", x.grow(0, 0, 1, 2), 89);
        x.override(0, 1, 2);
        due("one never", x.grow(0, 0, 1, 4), 218);
        due("one never", x.grow(0, 0, 1, 5), NONE);
        due("too many", x.grow(0, 0, 1, 25), BAD);
        due("too few", x.grow(0, 0, 1, -1), BAD);
        due("24", x.grow(0, 0, 1, 24), NONE);
        due("variant 0", x.grow(0, 0, 0, 1), BAD);
        due("no variant", x.grow(0, 0, 3, 1), BAD);
        due("no rule", x.grow(0, 2, 1, 1), BAD);
        due("no feature", x.grow(1, 0, 1, 1), BAD);
        due("fixed", x.grow(0, 1, 1, 1), STUCK);
        due("bad, ahead of fixed", x.grow(0, 1, 1, 25), BAD);
        due("NONE isn't refused", x.status(12), 7);
        FeatureDesk y = new FeatureDesk();
        y.feature(3);
        rule(y, 0, "*%7,8,9");
        int[] edges = {662, 527, 1572, 316, 1023, 248, 929};
        for (int key : edges) {
            y.person(key, 0);
        }
        for (int variant = 1; variant <= 3; variant++) {
            due("bucket 0 of it", y.grow(0, 0, variant, 1), 1);
            due("bucket 332 of it", y.grow(0, 0, variant, 2), 333);
            due("no more", y.grow(0, 0, variant, 3), NONE);
        }
        FeatureDesk all = persons(24);
        all.feature(1);
        rule(all, 0, "*%0,0,0");
        all.tell(0, 2, 1);
        int inPart = 0;
        for (int key = 1; key <= 24; key++) {
            inPart += all.bucket(1, key) < 333 ? 1 : 0;
        }
        due("all that may be", all.grow(0, 0, 1, inPart) > 0 ? 1 : 0, 1);
        due("one more", all.grow(0, 0, 1, inPart + 1), NONE);
        rule(all, 0, "*:1");
        all.drop(0, 0);
        due("reached by all", all.reach(0, 1), 24);
        FeatureDesk none = new FeatureDesk();
        none.feature(1);
        rule(none, 0, "*%5,0,0");
        due("without persons", none.grow(0, 0, 1, 1), NONE);
        due("without persons", none.grow(0, 0, 1, 0), 0);
    }

    private static void promise36() {
        promise = 36;
        FeatureDesk x = persons(5);
        x.feature(2);
        rule(x, 0, "*%0,0,0");
        rule(x, 0, "*:1");
        due("nobody", x.moved(0, 0, 1, 0), 0);
        due("nobody yet", x.moved(0, 0, 1, 88), 0);
        due("1", x.moved(0, 0, 1, 89), 1);
        due("1, 2, 3, 5", x.moved(0, 0, 1, 333), 23);
        due("4", x.moved(0, 0, 2, 333), 8);
        x.part(0, 0, 1, 200);
        due("3, 5", x.moved(0, 0, 1, 333), 20);
        due("back", x.moved(0, 0, 1, 100), 2);
        due("nothing is changed", x.part(0, 0, 1, 200), 200);
        x.override(0, 3, 0);
        due("not with an override", x.moved(0, 0, 1, 333), 16);
        due("no part", x.moved(0, 0, 1, 334), BAD);
        due("no part", x.moved(0, 0, 1, -1), BAD);
        due("variant 0", x.moved(0, 0, 0, 1), BAD);
        due("no variant", x.moved(0, 0, 3, 1), BAD);
        due("no rule", x.moved(0, 2, 1, 1), BAD);
        due("no feature", x.moved(1, 0, 1, 1), BAD);
        due("fixed", x.moved(0, 1, 1, 1), STUCK);
        due("bad, ahead of fixed", x.moved(0, 1, 1, 334), BAD);
        FeatureDesk all = persons(24);
        all.feature(1);
        rule(all, 0, "*%0,0,0");
        int bits = 0;
        for (int key = 1; key <= 24; key++) {
            bits |= all.bucket(1, key) < 333 ? 1 << key - 1 : 0;
        }
        due("of all", all.moved(0, 0, 1, 333), bits);
    }

    private static void promise37() {
        promise = 37;
        FeatureDesk x = persons(2);
        for (int i = 0; i < 4; i++) {
            x.feature(1);
        }
        due("off anyhow", x.shakes(0), 0);
        x.tell(0, 2, 1);
        due("itself", x.shakes(0), 1);
        x.needs(1, 0, 1);
        x.tell(1, 2, 1);
        x.needs(2, 1, 0);
        x.tell(2, 2, 1);
        due("and by others", x.shakes(0), 7);
        x.tell(0, 0, 1);
        due("were it not killed", x.shakes(0), 7);
        due("nothing is changed", x.featureOf(0, 1), 1);
        x.override(0, 1, 1);
        x.override(1, 2, 0);
        due("one alone is enough", x.shakes(0), 1);
        due("no feature", x.shakes(4), BAD);
        due("no feature", x.shakes(-1), BAD);
        FeatureDesk none = new FeatureDesk();
        none.feature(1);
        none.tell(0, 2, 1);
        due("without persons", none.shakes(0), 0);
        FeatureDesk all = persons(24);
        for (int i = 0; i < 12; i++) {
            all.feature(1);
        }
        rule(all, 11, "#1-1:1");
        due("the first person alone", all.shakes(11), 1 << 11);
        all.drop(11, 0);
        rule(all, 11, "#24-24:1");
        due("the last person alone", all.shakes(11), 1 << 11);
    }

    private static void promise38() {
        promise = 38;
        FeatureDesk x = persons(3);
        x.feature(2);
        x.feature(1);
        rule(x, 0, "#1-2:2");
        rule(x, 1, "#2-3:1");
        due("overlap", x.overlap(0, 1), 2);
        due("the other way", x.overlap(1, 0), 2);
        due("with itself", x.overlap(0, 0), 3);
        FeatureDesk all = persons(24);
        all.feature(1);
        all.tell(0, 2, 1);
        due("of all", all.overlap(0, 0), 0xffffff);
        due("no feature", x.overlap(0, 2), BAD);
        due("no feature", x.overlap(-1, 0), BAD);
    }

    private static void promise39() {
        promise = 39;
        FeatureDesk x = new FeatureDesk();
        for (int i = 0; i < 12; i++) {
            x.feature(1);
        }
        due("none", x.needed(0), 0);
        x.needs(0, 1, 0);
        x.needs(5, 0, 0);
        due("by the first", x.needed(5), 3);
        x.needs(11, 3, 0);
        x.needs(11, 4, 0);
        x.needs(3, 7, 1);
        x.needs(7, 2, 1);
        due("by others, too", x.needed(11), 0b10011100);
        due("of one", x.needed(7), 4);
        x.free(3);
        due("no more", x.needed(11), 0b11000);
        due("no feature", x.needed(12), BAD);
        due("no feature", x.needed(-1), BAD);
    }

    private static void keptToJudge() {
        promise40();
        promise41();
        promise42();
        promise43();
        promise44();
    }

    private static void promise40() {
        promise = 40;
        FeatureDesk x = persons(2);
        x.feature(3);
        x.tell(0, 1, 1);
        rule(x, 0, "*%333,0,0");
        due("nothing", x.kept(0, 1), NONE);
        due("would keeps nothing", x.would(0, 1, 0), 1);
        due("nothing", x.kept(0, 1), NONE);
        x.ask(0, 1);
        due("kept", x.kept(0, 1), 1);
        due("of another", x.kept(0, 2), NONE);
        due("no person", x.kept(0, 3), BAD);
        due("no feature", x.kept(1, 1), BAD);
        due("NONE isn't refused", x.status(12), 2);
    }

    private static void promise41() {
        promise = 41;
        FeatureDesk x = persons(2);
        x.feature(1);
        x.feature(1);
        for (int f = 0; f < 2; f++) {
            x.tell(f, 1, 1);
            rule(x, f, "*%333,0,0");
        }
        x.ask(0, 1);
        x.ask(0, 2);
        x.ask(1, 2);
        x.ask(1, 1);
        due("all kept", x.status(6), 3);
        due("forget", x.forget(0), 2);
        due("forget again", x.forget(0), 0);
        due("gone", x.kept(0, 1), NONE);
        due("of the other it stays", x.featureOf(1, 9), 1);
        due("no feature", x.forget(2), BAD);
        due("no feature", x.forget(-1), BAD);
    }

    private static void promise42() {
        promise = 42;
        dueSpelling(1, "*:1", "*:1");
        dueSpelling(3, "((*))%000,007,020", "*%0,7,20");
        dueSpelling(1, "#000000-00100:0", "#0-100:0");
        dueSpelling(1, "!(!(!(a<0))):1", "!!!a<0:1");
        dueSpelling(1, "#9-10|#89-99|#100-999:1", "#9-10|#89-99|#100-999:1");
        dueSpelling(1, "#1000-9999|#10000-99999|#100000-999999:1", "#1000-9999|#10000-99999|#100000-999999:1");
        dueSpelling(1, "#000000-000000|#000900-009000:1", "#0-0|#900-9000:1");
        dueSpelling(1, "!(a<0&b>9):1", "!(a<0&b>9):1");
        dueSpelling(1, "!(a<0|b>9):1", "!(a<0|b>9):1");
        dueSpelling(1, "(a=1&b=2)&c=3:1", "a=1&b=2&c=3:1");
        dueSpelling(1, "a=1&(b=2&c=3):1", "a=1&(b=2&c=3):1");
        dueSpelling(1, "(a=1|b=2)|c=3:1", "a=1|b=2|c=3:1");
        dueSpelling(1, "a=1|(b=2|c=3):1", "a=1|(b=2|c=3):1");
        dueSpelling(1, "(a=1&b=2)|(c=3&d=4):1", "a=1&b=2|c=3&d=4:1");
        dueSpelling(1, "(a=1|b=2)&(c=3|d=4):1", "(a=1|b=2)&(c=3|d=4):1");
        dueSpelling(1, "a=1|(b=2&(c=3|(*&*))):1", "a=1|b=2&(c=3|*&*):1");
        dueSpelling(1, "(!a=1)&(!(#9-10)):1", "!a=1&!#9-10:1");
        FeatureDesk x = new FeatureDesk();
        x.feature(3);
        String longest = "*" + "&*".repeat(116) + "|*|*|*%0,0,0";
        feed(x, longest);
        due("so much of the tape", x.status(8), 245);
        due("rule", x.rule(0), 0);
        x.part(0, 0, 1, 333);
        x.part(0, 0, 2, 333);
        x.part(0, 0, 3, 332);
        due("longer now", x.spelled(0, 0, 250), '2');
        due("its end", x.spelled(0, 0, 251), NONE);
        due("some letter", x.spelled(0, 0, 248), '3');
        due("none", x.spelled(0, 0, -1), NONE);
        due("none", x.spelled(0, 0, HIGH), NONE);
        due("nothing is refused", x.status(12), 0);
        due("no rule", x.spelled(0, 1, 0), BAD);
        due("no rule", x.spelled(0, -1, 0), BAD);
        due("no feature", x.spelled(1, 0, 0), BAD);
        FeatureDesk y = new FeatureDesk();
        y.feature(3);
        feed(y, "*" + "&*".repeat(121) + "%0,0,0");
        y.rule(0);
        y.part(0, 0, 1, 333);
        y.part(0, 0, 2, 333);
        y.part(0, 0, 3, 331);
        due("the longest of all", y.spelled(0, 0, 254), '1');
        due("its end", y.spelled(0, 0, 255), NONE);
    }

    private static void promise43() {
        promise = 43;
        FeatureDesk x = persons(3);
        x.feature(3);
        x.feature(1);
        x.tell(0, 0, 1);
        x.tell(0, 1, 1);
        x.tell(0, 2, 3);
        rule(x, 0, "*%333,333,333");
        rule(x, 0, "*:1");
        x.needs(0, 1, 0);
        x.override(0, 1, 1);
        x.override(0, 2, 1);
        x.override(0, 3, 0);
        x.layer(0, 2, 100, 109);
        int[] want = {3, 1, 1, 3, 2, 1, 3, 2, 10, 0};
        for (int what = 0; what < want.length; what++) {
            due("featureOf " + what, x.featureOf(0, what), want[what]);
        }
        x.tell(0, 0, 0);
        x.layer(0, NONE, 0, 0);
        x.override(0, 1, NONE);
        x.ask(0, 1);
        due("kept", x.featureOf(0, 9), 1);
        due("NONE isn't refused", x.featureOf(0, 7), NONE);
        due("refusals", x.status(12), 0);
        due("no such thing", x.featureOf(0, 10), BAD);
        due("no such thing", x.featureOf(0, -1), BAD);
        due("no feature", x.featureOf(2, 0), BAD);
        due("no feature", x.featureOf(-1, 0), BAD);
    }

    private static void promise44() {
        promise = 44;
        FeatureDesk x = persons(3);
        x.feature(1);
        rule(x, 0, "#2-3:1");
        x.row(0, 3, 7);
        long[] row = {1, 0, 2, 1, 3, 1, 9};
        for (int i = 0; i < row.length; i++) {
            x.set(0, i, row[i]);
        }
        due("all so", x.judge(0, 0, 3), NONE);
        due("fewer elements", x.judge(0, 0, 4), BAD);
        x.set(0, 3, 0);
        due("the second", x.judge(0, 0, 3), 1);
        due("not looked at", x.judge(0, 0, 1), NONE);
        due("none told", x.judge(0, 0, 0), NONE);
        x.set(0, 4, 4);
        due("no person behind the wrong one", x.judge(0, 0, 3), STUCK);
        due("not looked at", x.judge(0, 0, 2), 1);
        x.set(0, 4, (1L << 32) + 3);
        due("no such person", x.judge(0, 0, 3), STUCK);
        x.set(0, 0, 1);
        x.set(0, 1, 1L << 32);
        due("no such variant", x.judge(0, 0, 2), 0);
        x.row(1, 4, 40);
        for (int i = 0; i < 40; i += 2) {
            x.set(1, i, 1);
        }
        due("of booleans", x.judge(0, 1, 20), NONE);
        x.set(1, 39, 1);
        due("the last", x.judge(0, 1, 20), 19);
        due("too many", x.judge(0, 1, 21), BAD);
        due("too few", x.judge(0, 1, -1), BAD);
        due("no shelf", x.judge(0, 8, 0), BAD);
        due("no feature", x.judge(1, 0, 0), BAD);
        due("nothing", x.judge(0, 2, 20), NOTHING);
        due("too many, ahead of nothing", x.judge(0, 2, 21), BAD);
        x.row(3, 2, 2);
        x.set(3, 0, 99);
        due("no person in the first", x.judge(0, 3, 1), STUCK);
        x.show(2, 0, 0, 0);
        due("a condition", x.judge(0, 2, 20), OTHER);
        due("NONE isn't refused", x.status(12), 6);
        due("nothing is counted", x.status(7), 0);
    }

    private static void daysToStatus() {
        promise45();
        promise46();
        promise47();
        promise49();
    }

    private static int draw(int[] seed, int n) {
        seed[0] = seed[0] * 1103515245 + 12345;
        return (seed[0] >>> 16) % n;
    }

    private static void promise45() {
        promise = 45;
        FeatureDesk x = new FeatureDesk();
        due("no features", x.days(1), STUCK);
        x.feature(1);
        due("no persons", x.days(1), STUCK);
        due("bad, ahead of stuck", x.days(0), BAD);
        for (int key = 1; key <= 3; key++) {
            x.person(key, 0);
        }
        x.feature(1);
        x.tell(1, 2, 1);
        rule(x, 0, "*%0,0,0");
        x.step(1, 0, 0, 1, 333);
        due("too many", x.days(61), BAD);
        due("too few", x.days(-1), BAD);
        int[] seed = {1};
        int[] counts = {0, 0};
        int now = 0;
        for (int day = 0; day < 60; day++) {
            int feature = draw(seed, 2);
            int key = 1 + draw(seed, 3);
            // From time 1 on the part is 333: buckets 88, 168 and 214 are in it.
            boolean on = feature == 1 || now >= 1 && key <= 3;
            counts[feature] += on ? 1 : 0;
            now += draw(seed, 4);
        }
        due("days", x.days(60), counts[0] + counts[1]);
        due("seed", x.status(9), seed[0]);
        due("now", x.status(5), now);
        due("asked", x.status(7), 60);
        due("counted", x.counted(0, 1), counts[0]);
        due("counted", x.counted(1, 1), counts[1]);
        due("steps", x.status(4), 0);
        FeatureDesk y = persons(1);
        y.feature(1);
        y.tell(0, 1, 1);
        rule(y, 0, "*%333,0,0");
        due("one day", y.days(1), 1);
        due("it is in truth: kept", y.kept(0, 1), 1);
        // A seed by which the third draw is 0 of 4.
        FeatureDesk z = persons(1);
        z.feature(1);
        rule(z, 0, "*%0,0,0");
        int still = 0;
        for (int v = 1; v < 1000; v++) {
            int[] s = {v};
            draw(s, 1);
            draw(s, 1);
            if (draw(s, 4) == 0) {
                still = v;
                break;
            }
        }
        z.step(0, 0, 0, 1, 9);
        z.seed(still);
        z.days(1);
        due("NOW stays", z.status(5), 0);
        due("steps are done all the same", z.status(4), 0);
    }

    private static void promise46() {
        promise = 46;
        FeatureDesk x = persons(1);
        x.feature(1);
        due("at first", x.seed(77), 1);
        due("ahead", x.seed(LOW), 77);
        due("ahead", x.seed(-32), LOW);
        due("ahead", x.seed(0), -32);
        due("nothing is refused", x.status(12), 0);
        x.days(1);
        int[] seed = {0};
        draw(seed, 1);
        draw(seed, 1);
        draw(seed, 4);
        due("three draws a day", x.seed(5), seed[0]);
    }

    private static FeatureDesk furnished() {
        FeatureDesk x = persons(3);
        x.feature(3);
        x.feature(1);
        x.tell(0, 1, 1);
        rule(x, 0, "a=0&!b=1%333,100,0");
        rule(x, 0, "*:1");
        x.needs(1, 0, 1);
        x.override(1, 2, 1);
        x.layer(1, 1, 5, 500);
        x.step(7, 0, 0, 2, 200);
        x.ask(0, 1);
        x.pass(2);
        x.seed(99);
        return x;
    }

    private static String looks(FeatureDesk x) {
        StringBuilder all = new StringBuilder();
        for (int what = 0; what <= 7; what++) {
            all.append(x.status(what)).append(' ');
        }
        all.append(x.status(9));
        for (int f = 0; f < x.status(1); f++) {
            for (int what = 0; what <= 9; what++) {
                all.append(' ').append(x.featureOf(f, what));
            }
            for (int i = 0; i < x.status(0); i++) {
                all.append(' ').append(x.would(f, x.personOf(i), 1)).append(' ').append(x.kept(f, x.personOf(i)));
                all.append(' ').append(x.attributes(x.personOf(i))).append(' ').append(x.later(f, x.personOf(i), 8));
            }
            for (int variant = 0; variant <= x.featureOf(f, 0); variant++) {
                all.append(' ').append(x.counted(f, variant));
            }
            all.append(' ').append(x.needed(f));
        }
        return all.append(spelling(x, 0, 0)).append(spelling(x, 0, 1)).toString();
    }

    private static void promise47() {
        promise = 47;
        FeatureDesk x = furnished();
        String was = looks(furnished());
        feed(x, "xyz");
        x.row(0, 2, 2);
        due("image", x.image(), 1);
        x.gone(1);
        x.person(8, 8);
        x.person(9, 9);
        x.person(2, 7);
        x.feature(3);
        x.tell(0, 0, 1);
        x.tell(0, 1, 0);
        x.tell(1, 2, 1);
        x.part(0, 0, 1, 7);
        x.drop(0, 1);
        x.free(1);
        x.needs(0, 1, 0);
        x.override(1, 2, NONE);
        x.layer(1, 2, 7, 8);
        x.days(20);
        x.forget(0);
        x.override(0, 9, 3);
        x.ask(0, 9);
        x.seed(3);
        x.pass(1000);
        x.feed('!');
        x.show(1, 0, 0, 0);
        due("the condition is shown", x.holds(1), 17);
        due("refusals", x.status(12), 1);
        promise = 48;
        due("back", x.back(), 1);
        due("all is as it was", looks(x).equals(was) ? 1 : 0, 1);
        due("but the tape", x.status(8), 4);
        due("but shelves", x.status(10), 2);
        due("but refusals", x.status(12), 1);
        x = furnished();
        x.image();
        x.pass(5);
        x.gone(3);
        due("back", x.back(), 1);
        x.part(0, 0, 1, 1);
        x.person(77, 1);
        due("back again, to the same", x.back(), 1);
        due("persons", x.status(0), 3);
        due("part", x.part(0, 0, 1, 0), 333);
        due("now", x.status(5), 2);
        x.image();
        x.back();
        due("a later image", x.part(0, 0, 1, 0), 0);
        FeatureDesk none = new FeatureDesk();
        due("nothing was kept", none.back(), STUCK);
        due("refusals", none.status(15), 1);
        none.image();
        none.feature(1);
        due("an empty image", none.back(), 1);
        due("features", none.status(1), 0);
        due("a new feature is new", none.feature(2), 0);
        due("rules", none.featureOf(0, 4), 0);
    }

    private static void promise49() {
        promise = 49;
        FeatureDesk x = furnished();
        x.row(3, 0, 0);
        x.show(4, 0, 0, 0);
        feed(x, "ab");
        int[] want = {3, 2, 2, 1, 1, 2, 1, 1, 2, 99, 2, NONE, 0, 0, 0, 0, 0, NONE};
        for (int what = 0; what < want.length; what++) {
            due("status " + what, x.status(what), want[what]);
        }
        x.feed(-1);
        x.set(4, 0, 0);
        x.set(4, 0, 0);
        x.set(5, 0, 0);
        x.set(5, 0, 0);
        x.set(5, 0, 0);
        for (int i = 0; i < 4; i++) {
            x.back();
        }
        for (int i = 0; i < 16; i++) {
            x.feature(1);
        }
        int[] refusals = {1, 2, 3, 4, 6};
        for (int i = 0; i < 5; i++) {
            due("refusals " + i, x.status(12 + i), refusals[i]);
        }
        due("another what", x.status(-1), NONE);
        due("another what", x.status(LOW), NONE);
        due("another what", x.status(HIGH), NONE);
        x.show(4, NONE, 0, 0);
        due("shelves", x.status(10), 1);
        FeatureDesk all = persons(2);
        for (int i = 0; i < 12; i++) {
            all.feature(1);
            all.tell(i, 1, 1);
            rule(all, i, "*%333,0,0");
            all.override(i, 2, 1);
            all.layer(i, 0, 80 * i, 80 * i + 79);
            all.layer(i, NONE, 0, 0);
        }
        all.needs(11, 0, 1);
        all.needs(0, 1, 1);
        due("rules of all", all.status(2), 12);
        due("needs of all", all.status(3), 2);
        all.free(11);
        all.free(0);
        int kept = 0;
        for (int i = 0; i < 12; i++) {
            kept += all.ask(i, 1);
        }
        due("kept in all", all.status(6), kept);
        due("of the first, too", all.kept(0, 1), 1);
        due("gone, of twelve features", all.gone(1), 1);
        due("kept in all", all.status(6), 0);
        due("overrides come nearer", all.by(11, 1), 1);
    }
}
