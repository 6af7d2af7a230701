import java.util.Arrays;

/**
 * Features switched by rules, for persons with keys and attributes. The promises that it keeps are told
 * in ../shared/DOC.md, number by number.
 *
 * <p>All rows are made when the object is made and used again; only a rule that is read makes new ones.
 */
public final class FeatureDesk {
    public static final int NONE = -1;

    private static final int FINE = 0;
    private static final int BAD = -32;
    private static final int OTHER = -33;
    private static final int NOTHING = -34;
    private static final int STUCK = -35;
    private static final int FULL = -36;
    private static final int REFUSAL_SORTS = 5;
    private static final int FAULTY = -500;

    private static final int MOST_PERSONS = 24;
    private static final int GREATEST_KEY = 999999;
    private static final int GREATEST_ATTRIBUTES = 9999;
    private static final int MOST_FEATURES = 12;
    private static final int MOST_VARIANTS = 3;
    private static final int MOST_RULES = 6;
    private static final int MOST_NEEDS = 3;
    private static final int MOST_OVERRIDES = 8;
    private static final int GREATEST_LAYER = 3;
    private static final int BUCKETS = 1000;
    private static final int GREATEST_SALT = 200;
    private static final int LAYER_SALT = 100;
    private static final int GREATEST_PART = 333;
    private static final int MOST_STEPS = 24;
    private static final int GREATEST_TIME = 1000000;
    private static final int LONGEST_PASS = 999;
    private static final int FARTHEST_LATER = 9999;
    private static final int MOST_DAYS = 60;
    private static final int MOST_TWOS = 20;
    private static final int SHELVES = 8;
    private static final int SORTS = 5;
    private static final int MOST_ELEMENTS = 40;
    private static final int TAPE_SIZE = 250;
    // Parts may have grown by two digits each since their rule was read, so it is more than the tape's size.
    private static final int SPELLED_SIZE = TAPE_SIZE + 20;

    private static final int CONDITION = 0;
    private static final int PLAIN = 1;
    private static final int PAIR = 2;
    private static final int NOT = 3;
    private static final int ANY = 4;
    private static final int TEST = 5;
    private static final int KEYS = 6;
    private static final int BOTH = 7;
    private static final int EITHER = 8;

    private static final int BY_OVERRIDE = 1;
    private static final int BY_KILLED = 2;
    private static final int BY_NEED = 3;
    private static final int BY_LAYER = 4;
    private static final int BY_KEPT = 5;
    private static final int BY_RULE = 6;
    private static final int BY_FALLBACK = 7;

    private final Desk desk = new Desk();
    private final Desk image = new Desk();
    private final Desk trial = new Desk();
    private boolean hasImage = false;
    private final Answers answers = new Answers();
    private final Answers trialAnswers = new Answers();
    private final int[] leastParts = new int[MOST_PERSONS];
    private final Shelf[] shelves = new Shelf[SHELVES];
    private final int[] tape = new int[TAPE_SIZE];
    private int tapeSize = 0;
    private final Reader reader = new Reader();
    private final Speller speller = new Speller();
    private final int[] refusals = new int[REFUSAL_SORTS];

    public FeatureDesk() {
        for (int s = 0; s < SHELVES; s++) {
            shelves[s] = new Shelf();
        }
    }

    // ---- shelves

    public int row(int s, int sort, int n) {
        if (!isShelf(s) || sort < 0 || sort >= SORTS || n < 0 || n > MOST_ELEMENTS) {
            return refuse(BAD);
        }
        shelves[s].takeRow(sort, n);
        return 1;
    }

    public int set(int s, int i, long v) {
        int trouble = rowTrouble(s);
        if (trouble != FINE) {
            return refuse(trouble);
        }
        if (i < 0 || i >= shelves[s].size) {
            return refuse(BAD);
        }
        shelves[s].put(i, v);
        return 1;
    }

    public int copy(int p, int q, int i, int j, int n) {
        int trouble = twoRowsTrouble(p, q);
        if (trouble != FINE) {
            return refuse(trouble);
        }
        Shelf from = shelves[p];
        Shelf to = shelves[q];
        if (!from.hasRange(i, n) || !to.hasRange(j, n)) {
            return refuse(BAD);
        }
        System.arraycopy(from.elements, i, to.elements, j, n);
        return n;
    }

    public long element(int s, int i) {
        if (!isShelf(s) || !shelves[s].hasRow() || i < 0 || i >= shelves[s].size) {
            return 0;
        }
        return shelves[s].elements[i];
    }

    public int holds(int s) {
        return isShelf(s) ? shelves[s].holding() : NONE;
    }

    public int show(int s, int feature, int rule, int part) {
        if (!isShelf(s)) {
            return refuse(BAD);
        }
        if (feature == NONE) {
            shelves[s].clear();
            return 1;
        }
        if (!isRule(feature, rule)) {
            return refuse(BAD);
        }
        Condition condition = ruleAt(feature, rule).condition;
        int node = condition == null ? NONE : condition.partOf(condition.root(), part);
        if (node == NONE) {
            return refuse(BAD);
        }
        shelves[s].takeCondition(condition, node);
        return 1;
    }

    public int says(int s, int kind) {
        if (!isShelf(s) || kind < CONDITION || kind > EITHER) {
            return refuse(BAD);
        }
        Shelf shelf = shelves[s];
        if (shelf.hasRow()) {
            return refuse(OTHER);
        }
        Condition condition = shelf.condition;
        if (condition == null) {
            return refuse(NOTHING);
        }
        if (!isOfKind(condition.kindOf(shelf.node), kind)) {
            return refuse(OTHER);
        }
        return sayingOf(condition, shelf.node, kind);
    }

    private int sayingOf(Condition condition, int node, int kind) {
        switch (kind) {
            case CONDITION:
                return Integer.bitCount(personsOf(condition, node));
            case PLAIN:
                return condition.kindOf(node) - ANY;
            case PAIR:
                return condition.kindOf(condition.partOf(node, 2));
            case NOT:
                return condition.kindOf(condition.partOf(node, 1));
            case TEST:
                return 10 * condition.x[node] + condition.y[node];
            case KEYS:
                return condition.y[node] - condition.x[node] + 1;
            case BOTH:
                return Integer.bitCount(personsOf(condition, condition.partOf(node, 1))
                        ^ personsOf(condition, condition.partOf(node, 2)));
            case EITHER:
                return Integer.bitCount(personsOf(condition, condition.partOf(node, 1))
                        & personsOf(condition, condition.partOf(node, 2)));
            default:
                return 1;
        }
    }

    // ---- the tape

    public int feed(int letter) {
        if (letter < 0 || letter > 255) {
            return refuse(BAD);
        }
        if (tapeSize >= TAPE_SIZE) {
            return refuse(FULL);
        }
        tape[tapeSize] = letter;
        tapeSize++;
        return tapeSize;
    }

    public int wipe() {
        int size = tapeSize;
        tapeSize = 0;
        return size;
    }

    // ---- persons

    public int person(int key, int attributes) {
        if (!isKey(key) || attributes < 0 || attributes > GREATEST_ATTRIBUTES) {
            return refuse(BAD);
        }
        Persons persons = desk.persons;
        int place = persons.find(key);
        if (place == NONE && persons.count >= MOST_PERSONS) {
            return refuse(FULL);
        }
        if (place == NONE) {
            persons.add(key, attributes);
        } else {
            persons.attributes[place] = attributes;
        }
        return persons.count;
    }

    public int gone(int key) {
        int place = desk.persons.find(key);
        if (place == NONE) {
            return refuse(BAD);
        }
        desk.removePerson(place);
        return desk.persons.count;
    }

    public int personOf(int i) {
        if (i < 0 || i >= desk.persons.count) {
            return refuse(BAD);
        }
        return desk.persons.keys[i];
    }

    public int attributes(int key) {
        int place = desk.persons.find(key);
        if (place == NONE) {
            return refuse(BAD);
        }
        return desk.persons.attributes[place];
    }

    public int bucket(int salt, int key) {
        if (salt < 0 || salt > GREATEST_SALT || !isKey(key)) {
            return refuse(BAD);
        }
        return bucketBy(salt, key);
    }

    // ---- features

    public int feature(int n) {
        if (n < 1 || n > MOST_VARIANTS) {
            return refuse(BAD);
        }
        if (desk.featureCount >= MOST_FEATURES) {
            return refuse(FULL);
        }
        int number = desk.featureCount;
        desk.features[number].top = n;
        desk.featureCount++;
        return number;
    }

    public int tell(int feature, int what, int v) {
        if (!isFeature(feature) || what < 0 || what > 2) {
            return refuse(BAD);
        }
        Feature told = desk.features[feature];
        int greatest = what == 2 ? told.top : 1;
        if (v < 0 || v > greatest) {
            return refuse(BAD);
        }
        int was;
        if (what == 0) {
            was = told.killed;
            told.killed = v;
        } else if (what == 1) {
            was = told.sticky;
            told.sticky = v;
        } else {
            was = told.fallback;
            told.fallback = v;
        }
        return was;
    }

    public int rule(int feature) {
        int size = tapeSize;
        tapeSize = 0;
        if (!isFeature(feature)) {
            return refuse(BAD);
        }
        Feature owner = desk.features[feature];
        int fault = reader.read(tape, size, owner.top);
        if (fault != NONE) {
            refuse(BAD);
            return FAULTY - fault;
        }
        if (owner.ruleCount >= MOST_RULES) {
            return refuse(FULL);
        }
        int number = owner.ruleCount;
        owner.rules[number].take(reader.makeCondition(), reader.fixed, reader.parts);
        owner.ruleCount++;
        return number;
    }

    public int drop(int feature, int rule) {
        if (!isRule(feature, rule)) {
            return refuse(BAD);
        }
        Feature owner = desk.features[feature];
        owner.removeRule(rule);
        return owner.ruleCount;
    }

    public int part(int feature, int rule, int variant, int v) {
        if (!isPlaceOfPart(feature, rule, variant) || !isPart(v)) {
            return refuse(BAD);
        }
        Rule told = ruleAt(feature, rule);
        if (told.isFixed()) {
            return refuse(STUCK);
        }
        int was = told.parts[variant - 1];
        told.parts[variant - 1] = v;
        return was;
    }

    public int needs(int feature, int other, int variant) {
        if (!isFeature(feature) || !isVariant(other, variant)) {
            return refuse(BAD);
        }
        if (feature == other || hasBit(desk.neededBy(other), feature)) {
            return refuse(STUCK);
        }
        Feature needy = desk.features[feature];
        if (needy.needCount >= MOST_NEEDS) {
            return refuse(FULL);
        }
        needy.addNeed(other, variant);
        return needy.needCount;
    }

    public int free(int feature) {
        if (!isFeature(feature)) {
            return refuse(BAD);
        }
        int were = desk.features[feature].needCount;
        desk.features[feature].needCount = 0;
        return were;
    }

    public int override(int feature, int key, int variant) {
        int place = desk.persons.find(key);
        if (place == NONE || !isFeature(feature)) {
            return refuse(BAD);
        }
        if (variant != NONE && !isVariant(feature, variant)) {
            return refuse(BAD);
        }
        Feature owner = desk.features[feature];
        int was = owner.overrides[place];
        if (was == NONE && variant != NONE && countSome(owner.overrides) >= MOST_OVERRIDES) {
            return refuse(FULL);
        }
        owner.overrides[place] = variant;
        return was;
    }

    public int layer(int feature, int layer, int from, int to) {
        if (!isFeature(feature)) {
            return refuse(BAD);
        }
        if (layer == NONE) {
            desk.features[feature].takeLayer(NONE, 0, 0);
            return 1;
        }
        if (layer < 0 || layer > GREATEST_LAYER || from < 0 || from > to || to >= BUCKETS) {
            return refuse(BAD);
        }
        if (desk.isTaken(feature, layer, from, to)) {
            return refuse(STUCK);
        }
        desk.features[feature].takeLayer(layer, from, to);
        return 1;
    }

    // ---- time

    public int step(int time, int feature, int rule, int variant, int part) {
        if (time < desk.now || time > GREATEST_TIME || rule < 0 || rule >= MOST_RULES) {
            return refuse(BAD);
        }
        if (!isVariant(feature, variant) || variant == 0 || !isPart(part)) {
            return refuse(BAD);
        }
        if (desk.steps.count >= MOST_STEPS) {
            return refuse(FULL);
        }
        desk.steps.add(time, feature, rule, variant, part);
        return desk.steps.count;
    }

    public int pass(int n) {
        if (n < 0 || n > LONGEST_PASS) {
            return refuse(BAD);
        }
        return desk.goOn(n);
    }

    // ---- asking

    public int ask(int feature, int key) {
        int place = desk.persons.find(key);
        if (place == NONE || !isFeature(feature)) {
            return refuse(BAD);
        }
        return askInTruth(feature, place);
    }

    public int would(int feature, int key, int what) {
        int place = desk.persons.find(key);
        if (place == NONE || !isFeature(feature) || what < 0 || what > 3) {
            return refuse(BAD);
        }
        answerOne(feature, place);
        switch (what) {
            case 0:
                return answers.variants[feature];
            case 1:
                return answers.reasons[feature];
            case 2:
                return answers.numbers[feature];
            default:
                return answers.pathLength;
        }
    }

    public int path(int feature, int key, int i, int what) {
        int place = desk.persons.find(key);
        if (place == NONE || !isFeature(feature) || what < 0 || what > 3) {
            return refuse(BAD);
        }
        answerOne(feature, place);
        if (i < 0 || i >= answers.pathLength) {
            return refuse(BAD);
        }
        int member = answers.path[i];
        switch (what) {
            case 0:
                return member;
            case 1:
                return answers.reasons[member];
            case 2:
                return answers.numbers[member];
            default:
                return answers.variants[member];
        }
    }

    public int later(int feature, int key, int time) {
        int place = desk.persons.find(key);
        if (place == NONE || !isFeature(feature) || time < desk.now || time - desk.now > FARTHEST_LATER) {
            return refuse(BAD);
        }
        trial.become(desk);
        trial.doSteps(time);
        return answerInTrial(feature, place);
    }

    public int reach(int feature, int variant) {
        if (!isVariant(feature, variant)) {
            return refuse(BAD);
        }
        int reached = 0;
        for (int place = 0; place < desk.persons.count; place++) {
            if (answerOne(feature, place) == variant) {
                reached++;
            }
        }
        return reached;
    }

    public int counted(int feature, int variant) {
        if (!isVariant(feature, variant)) {
            return refuse(BAD);
        }
        return desk.features[feature].counts[variant];
    }

    public int by(int feature, int reason) {
        if (!isFeature(feature) || reason < BY_OVERRIDE || reason > BY_FALLBACK) {
            return refuse(BAD);
        }
        int bits = 0;
        for (int place = 0; place < desk.persons.count; place++) {
            answerOne(feature, place);
            if (answers.reasons[feature] == reason) {
                bits |= 1 << place;
            }
        }
        return bits;
    }

    public int so(int feature, int rule) {
        if (!isRule(feature, rule)) {
            return refuse(BAD);
        }
        Condition condition = ruleAt(feature, rule).condition;
        return condition == null ? 0 : personsOf(condition, condition.root());
    }

    public int grow(int feature, int rule, int variant, int n) {
        if (!isPlaceOfPart(feature, rule, variant) || n < 0 || n > MOST_PERSONS) {
            return refuse(BAD);
        }
        if (ruleAt(feature, rule).isFixed()) {
            return refuse(STUCK);
        }
        findLeastParts(feature, rule, variant);
        for (int part = 0; part <= GREATEST_PART; part++) {
            if (reachedBy(part) >= n) {
                return part;
            }
        }
        return NONE;
    }

    public int moved(int feature, int rule, int variant, int v) {
        if (!isPlaceOfPart(feature, rule, variant) || !isPart(v)) {
            return refuse(BAD);
        }
        if (ruleAt(feature, rule).isFixed()) {
            return refuse(STUCK);
        }
        trial.become(desk);
        trial.setPart(feature, rule, variant, v);
        int bits = 0;
        for (int place = 0; place < desk.persons.count; place++) {
            if (answerOne(feature, place) != answerInTrial(feature, place)) {
                bits |= 1 << place;
            }
        }
        return bits;
    }

    public int shakes(int feature) {
        if (!isFeature(feature)) {
            return refuse(BAD);
        }
        trial.become(desk);
        trial.features[feature].killed = 1 - trial.features[feature].killed;
        int bits = 0;
        for (int place = 0; place < desk.persons.count; place++) {
            bits |= changedFeatures(place);
        }
        return bits;
    }

    public int overlap(int feature, int other) {
        if (!isFeature(feature) || !isFeature(other)) {
            return refuse(BAD);
        }
        int bits = 0;
        for (int place = 0; place < desk.persons.count; place++) {
            if (answerOne(feature, place) != 0 && answerOne(other, place) != 0) {
                bits |= 1 << place;
            }
        }
        return bits;
    }

    public int needed(int feature) {
        return isFeature(feature) ? desk.neededBy(feature) : refuse(BAD);
    }

    public int kept(int feature, int key) {
        int place = desk.persons.find(key);
        if (place == NONE || !isFeature(feature)) {
            return refuse(BAD);
        }
        return desk.features[feature].kept[place];
    }

    public int forget(int feature) {
        if (!isFeature(feature)) {
            return refuse(BAD);
        }
        int were = countSome(desk.features[feature].kept);
        Arrays.fill(desk.features[feature].kept, NONE);
        return were;
    }

    public int spelled(int feature, int rule, int i) {
        if (!isRule(feature, rule)) {
            return refuse(BAD);
        }
        speller.spell(ruleAt(feature, rule));
        return speller.letterAt(i);
    }

    public int featureOf(int feature, int what) {
        if (!isFeature(feature)) {
            return refuse(BAD);
        }
        Feature f = desk.features[feature];
        switch (what) {
            case 0:
                return f.top;
            case 1:
                return f.killed;
            case 2:
                return f.sticky;
            case 3:
                return f.fallback;
            case 4:
                return f.ruleCount;
            case 5:
                return f.needCount;
            case 6:
                return countSome(f.overrides);
            case 7:
                return f.layer;
            case 8:
                return f.layer == NONE ? 0 : f.to - f.from + 1;
            case 9:
                return countSome(f.kept);
            default:
                return refuse(BAD);
        }
    }

    public int judge(int feature, int s, int n) {
        if (!isFeature(feature) || !isShelf(s) || n < 0 || n > MOST_TWOS) {
            return refuse(BAD);
        }
        int trouble = rowTrouble(s);
        if (trouble != FINE) {
            return refuse(trouble);
        }
        Shelf told = shelves[s];
        if (told.size < 2 * n) {
            return refuse(BAD);
        }
        if (!hasPersons(told, n)) {
            return refuse(STUCK);
        }
        return firstUntrue(feature, told, n);
    }

    public int days(int n) {
        if (n < 1 || n > MOST_DAYS) {
            return refuse(BAD);
        }
        if (desk.featureCount == 0 || desk.persons.count == 0) {
            return refuse(STUCK);
        }
        int on = 0;
        for (int day = 0; day < n; day++) {
            int feature = desk.draw(desk.featureCount);
            int place = desk.draw(desk.persons.count);
            if (askInTruth(feature, place) != 0) {
                on++;
            }
            desk.goOn(desk.draw(4));
        }
        return on;
    }

    public int seed(int v) {
        int was = desk.seed;
        desk.seed = v;
        return was;
    }

    // ---- the whole

    public int image() {
        image.become(desk);
        hasImage = true;
        return 1;
    }

    public int back() {
        if (!hasImage) {
            return refuse(STUCK);
        }
        desk.become(image);
        return 1;
    }

    public int status(int what) {
        if (what >= 12 && what < 12 + REFUSAL_SORTS) {
            return refusals[what - 12];
        }
        switch (what) {
            case 0:
                return desk.persons.count;
            case 1:
                return desk.featureCount;
            case 2:
                return desk.countRules();
            case 3:
                return desk.countNeeds();
            case 4:
                return desk.steps.count;
            case 5:
                return desk.now;
            case 6:
                return desk.countKept();
            case 7:
                return desk.asked;
            case 8:
                return tapeSize;
            case 9:
                return desk.seed;
            case 10:
                return countShelves();
            default:
                return NONE;
        }
    }

    // ---- what the calls have in common

    private int refuse(int refusal) {
        int sort = BAD - refusal;
        if (sort >= 0 && sort < REFUSAL_SORTS) {
            refusals[sort]++;
        }
        return refusal;
    }

    private boolean isShelf(int s) {
        return s >= 0 && s < SHELVES;
    }

    private boolean isKey(int key) {
        return key >= 0 && key <= GREATEST_KEY;
    }

    private boolean isPart(int v) {
        return v >= 0 && v <= GREATEST_PART;
    }

    private boolean isFeature(int feature) {
        return feature >= 0 && feature < desk.featureCount;
    }

    private boolean isVariant(int feature, int variant) {
        return isFeature(feature) && variant >= 0 && variant <= desk.features[feature].top;
    }

    private boolean isRule(int feature, int rule) {
        return isFeature(feature) && rule >= 0 && rule < desk.features[feature].ruleCount;
    }

    private boolean isPlaceOfPart(int feature, int rule, int variant) {
        return isRule(feature, rule) && isVariant(feature, variant) && variant > 0;
    }

    /** Asked only where isRule() holds. */
    private Rule ruleAt(int feature, int rule) {
        return desk.features[feature].rules[rule];
    }

    private int rowTrouble(int s) {
        if (!isShelf(s)) {
            return BAD;
        }
        if (shelves[s].hasCondition()) {
            return OTHER;
        }
        return shelves[s].hasRow() ? FINE : NOTHING;
    }

    private int twoRowsTrouble(int p, int q) {
        int first = rowTrouble(p);
        int second = rowTrouble(q);
        if (first == BAD || second == BAD) {
            return BAD;
        }
        if (first == OTHER || second == OTHER) {
            return OTHER;
        }
        if (first == NOTHING || second == NOTHING) {
            return NOTHING;
        }
        return shelves[p].sort == shelves[q].sort ? FINE : OTHER;
    }

    private int countShelves() {
        int holding = 0;
        for (int s = 0; s < SHELVES; s++) {
            if (shelves[s].holding() != NONE) {
                holding++;
            }
        }
        return holding;
    }

    private int personsOf(Condition condition, int node) {
        Persons persons = desk.persons;
        int bits = 0;
        for (int place = 0; place < persons.count; place++) {
            if (condition.isSo(node, persons.keys[place], persons.attributes[place])) {
                bits |= 1 << place;
            }
        }
        return bits;
    }

    private int answerOne(int feature, int place) {
        answers.begin();
        decide(desk, answers, place, feature, 0);
        return answers.variantOf(feature);
    }

    private int answerInTrial(int feature, int place) {
        trialAnswers.begin();
        decide(trial, trialAnswers, place, feature, 0);
        return trialAnswers.variantOf(feature);
    }

    private int askInTruth(int feature, int place) {
        int variant = answerOne(feature, place);
        Feature asked = desk.features[feature];
        asked.count(variant);
        desk.asked++;
        boolean byRule = answers.reasons[feature] == BY_RULE;
        if (asked.sticky == 1 && byRule && variant != 0 && asked.isShared(answers.numbers[feature])) {
            asked.kept[place] = variant;
        }
        return variant;
    }

    /** The part from which on each person gets the variant; more than any part, where none will do. */
    private void findLeastParts(int feature, int rule, int variant) {
        trial.become(desk);
        for (int place = 0; place < desk.persons.count; place++) {
            trial.setPart(feature, rule, variant, 0);
            if (answerInTrial(feature, place) == variant) {
                leastParts[place] = 0;
                continue;
            }
            trial.setPart(feature, rule, variant, GREATEST_PART);
            boolean reachable = answerInTrial(feature, place) == variant;
            int bucket = bucketBy(feature + 1, desk.persons.keys[place]);
            leastParts[place] = reachable ? bucket - firstBucket(variant) + 1 : GREATEST_PART + 1;
        }
    }

    private int reachedBy(int part) {
        int reached = 0;
        for (int place = 0; place < desk.persons.count; place++) {
            if (leastParts[place] <= part) {
                reached++;
            }
        }
        return reached;
    }

    private int changedFeatures(int place) {
        answers.begin();
        trialAnswers.begin();
        int bits = 0;
        for (int feature = 0; feature < desk.featureCount; feature++) {
            decide(desk, answers, place, feature, 0);
            decide(trial, trialAnswers, place, feature, 0);
            if (answers.variants[feature] != trialAnswers.variants[feature]) {
                bits |= 1 << feature;
            }
        }
        return bits;
    }

    private boolean hasPersons(Shelf told, int n) {
        for (int two = 0; two < n; two++) {
            if (desk.persons.find(told.elements[2 * two]) == NONE) {
                return false;
            }
        }
        return true;
    }

    private int firstUntrue(int feature, Shelf told, int n) {
        for (int two = 0; two < n; two++) {
            int place = desk.persons.find(told.elements[2 * two]);
            if (place == NONE || answerOne(feature, place) != told.elements[2 * two + 1]) {
                return two;
            }
        }
        return NONE;
    }

    private static int bucketBy(int salt, int key) {
        int z = key + 101 * salt;
        z = (z ^ (z >>> 16)) * 73244475;
        z = (z ^ (z >>> 16)) * 73244475;
        z = z ^ (z >>> 16);
        return (z >>> 1) % BUCKETS;
    }

    private static int firstBucket(int variant) {
        return GREATEST_PART * (variant - 1);
    }

    private static boolean hasBit(int bits, int i) {
        return ((bits >>> i) & 1) == 1;
    }

    private static int countSome(int[] row) {
        int some = 0;
        for (int v : row) {
            if (v != NONE) {
                some++;
            }
        }
        return some;
    }

    private static boolean isOfKind(int own, int asked) {
        switch (asked) {
            case CONDITION:
                return true;
            case PLAIN:
                return own == ANY || own == TEST || own == KEYS;
            case PAIR:
                return own == BOTH || own == EITHER;
            default:
                return own == asked;
        }
    }

    /**
     * Finds the answer of a feature for a person, and first those of the needs that it looks at: so the
     * answers come to stand in the order of the path. Needs have no rings, so it goes no deeper than
     * there are features.
     */
    private static void decide(Desk desk, Answers answers, int place, int feature, int depth) {
        if (depth >= MOST_FEATURES || feature < 0 || feature >= MOST_FEATURES || answers.knows(feature)) {
            return;
        }
        Feature f = desk.features[feature];
        if (f.overrides[place] != NONE) {
            answers.put(feature, f.overrides[place], BY_OVERRIDE, NONE);
            return;
        }
        if (f.killed == 1) {
            answers.put(feature, 0, BY_KILLED, NONE);
            return;
        }
        for (int i = 0; i < f.needCount; i++) {
            int other = f.needFeatures[i];
            decide(desk, answers, place, other, depth + 1);
            if (answers.variantOf(other) != f.needVariants[i]) {
                answers.put(feature, 0, BY_NEED, other);
                return;
            }
        }
        decideAlone(f, feature, desk.persons, answers, place);
    }

    /** What is left of the answer when no override, kill or need has told it. */
    private static void decideAlone(Feature f, int feature, Persons persons, Answers answers, int place) {
        int key = persons.keys[place];
        if (f.layer != NONE) {
            int bucket = bucketBy(f.layer + LAYER_SALT, key);
            if (bucket < f.from || bucket > f.to) {
                answers.put(feature, 0, BY_LAYER, f.layer);
                return;
            }
        }
        if (f.kept[place] != NONE) {
            answers.put(feature, f.kept[place], BY_KEPT, NONE);
            return;
        }
        for (int rule = 0; rule < f.ruleCount; rule++) {
            Condition condition = f.rules[rule].condition;
            if (condition != null && condition.isSo(condition.root(), key, persons.attributes[place])) {
                int variant = f.rules[rule].variantOf(bucketBy(feature + 1, key));
                answers.put(feature, variant, BY_RULE, rule);
                return;
            }
        }
        answers.put(feature, f.fallback, BY_FALLBACK, NONE);
    }

    /** A place for nothing, a row, or a condition. */
    private static final class Shelf {
        private int sort = NONE;
        private int size = 0;
        private final long[] elements = new long[MOST_ELEMENTS];
        private Condition condition = null;
        private int node = NONE;

        boolean hasRow() {
            return sort != NONE;
        }

        boolean hasCondition() {
            return condition != null;
        }

        /** Written so that no sum can wrap around. */
        boolean hasRange(int from, int n) {
            return from >= 0 && n >= 0 && from <= size && n <= size - from;
        }

        int holding() {
            return condition == null ? sort : 10 + condition.kindOf(node);
        }

        void clear() {
            sort = NONE;
            size = 0;
            condition = null;
            node = NONE;
        }

        void takeRow(int newSort, int newSize) {
            clear();
            sort = newSort;
            size = newSize;
            Arrays.fill(elements, 0L);
        }

        void takeCondition(Condition shown, int shownNode) {
            clear();
            condition = shown;
            node = shownNode;
        }

        void put(int i, long v) {
            switch (sort) {
                case 0:
                    elements[i] = (byte) v;
                    break;
                case 1:
                    elements[i] = (short) v;
                    break;
                case 2:
                    elements[i] = (int) v;
                    break;
                case 3:
                    elements[i] = v;
                    break;
                default:
                    elements[i] = v == 0 ? 0 : 1;
                    break;
            }
        }
    }

    /**
     * A condition, laid out as nodes in which parts stand ahead of what is over them, the whole last: so it
     * is judged in one loop, however deep it is. It never changes but for the truths, which are only
     * room for judging.
     */
    private static final class Condition {
        private final int[] kinds;
        /** Of a test its attribute, of keys the first one, of others the node of the first part. */
        private final int[] x;
        /** Of a test its digit, of keys the last one, of a pair the node of the second part. */
        private final int[] y;
        private final int[] signs;
        private final boolean[] truths;

        Condition(int[] kinds, int[] x, int[] y, int[] signs, int size) {
            this.kinds = Arrays.copyOf(kinds, size);
            this.x = Arrays.copyOf(x, size);
            this.y = Arrays.copyOf(y, size);
            this.signs = Arrays.copyOf(signs, size);
            this.truths = new boolean[size];
        }

        int root() {
            return kinds.length - 1;
        }

        int kindOf(int node) {
            return node >= 0 && node < kinds.length ? kinds[node] : NONE;
        }

        /** The node itself (part 0), or of the first or second that it is over; NONE where there is none. */
        int partOf(int node, int part) {
            int kind = kindOf(node);
            if (kind == NONE || part == 0) {
                return kind == NONE ? NONE : node;
            }
            boolean pair = kind == BOTH || kind == EITHER;
            if (part == 1 && (pair || kind == NOT)) {
                return x[node];
            }
            return part == 2 && pair ? y[node] : NONE;
        }

        boolean isSo(int node, int key, int attributes) {
            if (node < 0 || node >= kinds.length) {
                return false;
            }
            for (int i = 0; i <= node; i++) {
                switch (kinds[i]) {
                    case NOT:
                        truths[i] = !truthAt(x[i]);
                        break;
                    case TEST:
                        truths[i] = isTestSo(digitOf(attributes, x[i]), signs[i], y[i]);
                        break;
                    case KEYS:
                        truths[i] = key >= x[i] && key <= y[i];
                        break;
                    case BOTH:
                        truths[i] = truthAt(x[i]) && truthAt(y[i]);
                        break;
                    case EITHER:
                        truths[i] = truthAt(x[i]) || truthAt(y[i]);
                        break;
                    default:
                        truths[i] = true;
                        break;
                }
            }
            return truths[node];
        }

        private boolean truthAt(int node) {
            return node >= 0 && node < truths.length && truths[node];
        }

        private static boolean isTestSo(int value, int sign, int digit) {
            if (sign == '<') {
                return value < digit;
            }
            return sign == '=' ? value == digit : value > digit;
        }

        private static int digitOf(int attributes, int attribute) {
            switch (attribute) {
                case 0:
                    return attributes / 1000;
                case 1:
                    return attributes / 100 % 10;
                case 2:
                    return attributes / 10 % 10;
                default:
                    return attributes % 10;
            }
        }
    }

    /** Reads a rule from the tape; the nodes of its condition stand here until makeCondition(). */
    private static final class Reader {
        private int[] tape = new int[0];
        private int size = 0;
        private int place = 0;
        private int fixed = NONE;
        private final int[] parts = new int[MOST_VARIANTS];
        private final int[] kinds = new int[TAPE_SIZE];
        private final int[] x = new int[TAPE_SIZE];
        private final int[] y = new int[TAPE_SIZE];
        private final int[] signs = new int[TAPE_SIZE];
        private int nodeCount = 0;
        /** The nodes that are not yet part of another one. */
        private final int[] loose = new int[TAPE_SIZE];
        private int looseCount = 0;
        /** The signs !, (, & and | that still wait for what is over or behind them. */
        private final int[] waiting = new int[TAPE_SIZE];
        private int waitingCount = 0;
        private int openBrackets = 0;
        private boolean operandDue = true;

        /** Answers the fault's place; NONE: there is none. */
        int read(int[] from, int fromSize, int top) {
            tape = from;
            size = Math.min(fromSize, Math.min(from.length, TAPE_SIZE));
            place = 0;
            nodeCount = 0;
            looseCount = 0;
            waitingCount = 0;
            openBrackets = 0;
            operandDue = true;
            boolean read = readCondition() && readAnswer(top) && place == size;
            return read ? NONE : place;
        }

        Condition makeCondition() {
            return new Condition(kinds, x, y, signs, nodeCount);
        }

        /** Stops at the : or % behind the condition; where it answers no, the place is the fault's. */
        private boolean readCondition() {
            for (int turn = 0; turn < TAPE_SIZE && place < size; turn++) {
                int letter = tape[place];
                if (!operandDue && (letter == ':' || letter == '%')) {
                    joinWaiting(true);
                    return openBrackets == 0;
                }
                if (!(operandDue ? readOperand(letter) : readOperator(letter))) {
                    return false;
                }
                if (!operandDue) {
                    negate();
                }
            }
            return false;
        }

        private boolean readOperand(int letter) {
            if (letter == '!' || letter == '(') {
                openBrackets += letter == '(' ? 1 : 0;
                place++;
                return addWaiting(letter);
            }
            if (letter == '*') {
                place++;
                return addOperand(ANY, 0, 0, 0);
            }
            if (letter >= 'a' && letter <= 'd') {
                return readTest(letter - 'a');
            }
            return letter == '#' && readKeys();
        }

        private boolean readTest(int attribute) {
            place++;
            int sign = letterHere();
            if (sign != '<' && sign != '=' && sign != '>') {
                return false;
            }
            place++;
            if (!isDigitHere()) {
                return false;
            }
            int digit = letterHere() - '0';
            place++;
            return addOperand(TEST, attribute, digit, sign);
        }

        private boolean readKeys() {
            place++;
            int from = readNumber(6, 0, GREATEST_KEY);
            if (from == NONE || letterHere() != '-') {
                return false;
            }
            place++;
            int to = readNumber(6, from, GREATEST_KEY);
            return to != NONE && addOperand(KEYS, from, to, 0);
        }

        private boolean readOperator(int letter) {
            if (letter == '&' || letter == '|') {
                joinWaiting(letter == '|');
                operandDue = true;
                place++;
                return addWaiting(letter);
            }
            if (letter != ')' || openBrackets == 0) {
                return false;
            }
            joinWaiting(true);
            // What waits last is now the bracket.
            waitingCount = Math.max(0, waitingCount - 1);
            openBrackets--;
            place++;
            return true;
        }

        private boolean readAnswer(int top) {
            boolean isFixed = letterHere() == ':';
            place++;
            return isFixed ? readFixed(top) : readParts(top);
        }

        private boolean readFixed(int top) {
            Arrays.fill(parts, 0);
            if (!isDigitHere() || letterHere() - '0' > top) {
                return false;
            }
            fixed = letterHere() - '0';
            place++;
            return true;
        }

        private boolean readParts(int top) {
            fixed = NONE;
            for (int i = 0; i < MOST_VARIANTS; i++) {
                if (i > 0) {
                    if (letterHere() != ',') {
                        return false;
                    }
                    place++;
                }
                int part = readNumber(3, 0, i < top ? GREATEST_PART : 0);
                if (part == NONE) {
                    return false;
                }
                parts[i] = part;
            }
            return true;
        }

        /** NONE, and the place is the fault's, if there is no digit or the number may not be. */
        private int readNumber(int mostDigits, int least, int most) {
            int start = place;
            int number = 0;
            for (int i = 0; i < mostDigits && isDigitHere(); i++) {
                number = 10 * number + letterHere() - '0';
                place++;
            }
            if (place == start || number < least || number > most) {
                place = start;
                return NONE;
            }
            return number;
        }

        private int letterHere() {
            return place >= 0 && place < size ? tape[place] : NONE;
        }

        private boolean isDigitHere() {
            return place >= 0 && place < size && tape[place] >= '0' && tape[place] <= '9';
        }

        private boolean addWaiting(int sign) {
            if (waitingCount >= TAPE_SIZE) {
                return false;
            }
            waiting[waitingCount] = sign;
            waitingCount++;
            return true;
        }

        private boolean addOperand(int kind, int first, int second, int sign) {
            addNode(kind, first, second, sign);
            operandDue = false;
            return true;
        }

        /** What has just been read whole takes the ! that stand right ahead of it. */
        private void negate() {
            for (; waitingCount > 0 && waiting[waitingCount - 1] == '!'; waitingCount--) {
                addNode(NOT, takeLoose(), NONE, 0);
            }
        }

        /** Makes pairs of what waits, back to the last open bracket; of | only if those are to be joined, too. */
        private void joinWaiting(boolean eithersToo) {
            for (; waitingCount > 0; waitingCount--) {
                int sign = waiting[waitingCount - 1];
                if (sign != '&' && !(eithersToo && sign == '|')) {
                    return;
                }
                int second = takeLoose();
                int first = takeLoose();
                addNode(sign == '&' ? BOTH : EITHER, first, second, 0);
            }
        }

        private int takeLoose() {
            if (looseCount <= 0) {
                return NONE;
            }
            looseCount--;
            return loose[looseCount];
        }

        private void addNode(int kind, int first, int second, int sign) {
            if (nodeCount >= TAPE_SIZE || looseCount >= TAPE_SIZE) {
                return;
            }
            kinds[nodeCount] = kind;
            x[nodeCount] = first;
            y[nodeCount] = second;
            signs[nodeCount] = sign;
            loose[looseCount] = nodeCount;
            looseCount++;
            nodeCount++;
        }
    }

    /**
     * Spells a rule: first how long each node is, parts ahead of the whole, then where each begins, the whole
     * ahead of its parts: so it needs no recursion.
     */
    private static final class Speller {
        private final int[] lengths = new int[TAPE_SIZE];
        private final int[] starts = new int[TAPE_SIZE];
        private final int[] letters = new int[SPELLED_SIZE];
        private int size = 0;

        int letterAt(int i) {
            return i >= 0 && i < size ? letters[i] : NONE;
        }

        void spell(Rule rule) {
            size = 0;
            Condition condition = rule.condition;
            if (condition == null || condition.root() < 0 || condition.root() >= TAPE_SIZE) {
                return;
            }
            measure(condition);
            starts[condition.root()] = 0;
            for (int node = condition.root(); node >= 0; node--) {
                spellNode(condition, node);
            }
            size = lengths[condition.root()];
            spellAnswer(rule);
        }

        private void measure(Condition condition) {
            for (int node = 0; node <= condition.root(); node++) {
                switch (condition.kindOf(node)) {
                    case NOT:
                        lengths[node] = 1 + partLength(condition, node, 1);
                        break;
                    case TEST:
                        lengths[node] = 3;
                        break;
                    case KEYS:
                        lengths[node] = 2 + digitsOf(condition.x[node]) + digitsOf(condition.y[node]);
                        break;
                    case BOTH:
                    case EITHER:
                        lengths[node] = 1 + partLength(condition, node, 1) + partLength(condition, node, 2);
                        break;
                    default:
                        lengths[node] = 1;
                        break;
                }
            }
        }

        private int partLength(Condition condition, int node, int part) {
            int below = condition.partOf(node, part);
            if (below == NONE) {
                return 0;
            }
            return lengths[below] + (isBracketed(condition, node, part) ? 2 : 0);
        }

        /** Pairs are made from the left, so a second part of the same kind must be held together. */
        private static boolean isBracketed(Condition condition, int node, int part) {
            int over = condition.kindOf(node);
            int below = condition.kindOf(condition.partOf(node, part));
            if (below != BOTH && below != EITHER) {
                return false;
            }
            if (over == EITHER) {
                return part == 2 && below == EITHER;
            }
            return over == NOT || part == 2 || below == EITHER;
        }

        private void spellNode(Condition condition, int node) {
            int start = starts[node];
            int kind = condition.kindOf(node);
            if (kind == NOT) {
                put(start, '!');
                placePart(condition, node, 1, start + 1);
            } else if (kind == TEST) {
                put(start, 'a' + condition.x[node]);
                put(start + 1, condition.signs[node]);
                put(start + 2, '0' + condition.y[node]);
            } else if (kind == KEYS) {
                put(start, '#');
                int dash = putNumber(start + 1, condition.x[node]);
                put(dash, '-');
                putNumber(dash + 1, condition.y[node]);
            } else if (kind == BOTH || kind == EITHER) {
                int sign = start + partLength(condition, node, 1);
                placePart(condition, node, 1, start);
                put(sign, kind == BOTH ? '&' : '|');
                placePart(condition, node, 2, sign + 1);
            } else {
                put(start, '*');
            }
        }

        private void placePart(Condition condition, int node, int part, int start) {
            int below = condition.partOf(node, part);
            if (below == NONE) {
                return;
            }
            if (isBracketed(condition, node, part)) {
                put(start, '(');
                starts[below] = start + 1;
                put(start + 1 + lengths[below], ')');
            } else {
                starts[below] = start;
            }
        }

        private void spellAnswer(Rule rule) {
            if (rule.isFixed()) {
                put(size, ':');
                size = putNumber(size + 1, rule.fixed);
                return;
            }
            for (int i = 0; i < MOST_VARIANTS; i++) {
                put(size, i == 0 ? '%' : ',');
                size = putNumber(size + 1, rule.parts[i]);
            }
        }

        /** Answers the place behind the number. */
        private int putNumber(int start, int number) {
            int end = start + digitsOf(number);
            int rest = number;
            for (int at = end - 1; at >= start; at--) {
                put(at, '0' + rest % 10);
                rest /= 10;
            }
            return end;
        }

        private void put(int at, int letter) {
            if (at >= 0 && at < SPELLED_SIZE) {
                letters[at] = letter;
            }
        }

        private static int digitsOf(int number) {
            int digits = 1;
            for (int bound = 10; bound <= GREATEST_KEY && number >= bound; bound *= 10) {
                digits++;
            }
            return digits;
        }
    }

    /** A condition and an answer: a fixed variant, or (fixed NONE) parts of variants. */
    private static final class Rule {
        private Condition condition = null;
        private int fixed = NONE;
        private final int[] parts = new int[MOST_VARIANTS];

        void take(Condition newCondition, int newFixed, int[] newParts) {
            condition = newCondition;
            fixed = newFixed;
            System.arraycopy(newParts, 0, parts, 0, Math.min(newParts.length, MOST_VARIANTS));
        }

        boolean isFixed() {
            return fixed != NONE;
        }

        int variantOf(int bucket) {
            if (isFixed()) {
                return fixed;
            }
            for (int variant = 1; variant <= MOST_VARIANTS; variant++) {
                int first = firstBucket(variant);
                if (bucket >= first && bucket < first + parts[variant - 1]) {
                    return variant;
                }
            }
            return 0;
        }
    }

    /** One feature; its overrides and what is kept stand by the places of the persons. */
    private static final class Feature {
        private int top = 1;
        private int killed = 0;
        private int sticky = 0;
        private int fallback = 0;
        private final Rule[] rules = new Rule[MOST_RULES];
        private int ruleCount = 0;
        private final int[] needFeatures = new int[MOST_NEEDS];
        private final int[] needVariants = new int[MOST_NEEDS];
        private int needCount = 0;
        private final int[] overrides = new int[MOST_PERSONS];
        private final int[] kept = new int[MOST_PERSONS];
        private final int[] counts = new int[MOST_VARIANTS + 1];
        private int layer = NONE;
        private int from = 0;
        private int to = 0;

        Feature() {
            for (int i = 0; i < MOST_RULES; i++) {
                rules[i] = new Rule();
            }
            Arrays.fill(overrides, NONE);
            Arrays.fill(kept, NONE);
        }

        void become(Feature other) {
            top = other.top;
            killed = other.killed;
            sticky = other.sticky;
            fallback = other.fallback;
            for (int i = 0; i < MOST_RULES; i++) {
                rules[i].take(other.rules[i].condition, other.rules[i].fixed, other.rules[i].parts);
            }
            ruleCount = other.ruleCount;
            System.arraycopy(other.needFeatures, 0, needFeatures, 0, MOST_NEEDS);
            System.arraycopy(other.needVariants, 0, needVariants, 0, MOST_NEEDS);
            needCount = other.needCount;
            System.arraycopy(other.overrides, 0, overrides, 0, MOST_PERSONS);
            System.arraycopy(other.kept, 0, kept, 0, MOST_PERSONS);
            System.arraycopy(other.counts, 0, counts, 0, MOST_VARIANTS + 1);
            takeLayer(other.layer, other.from, other.to);
        }

        void takeLayer(int newLayer, int newFrom, int newTo) {
            layer = newLayer;
            from = newFrom;
            to = newTo;
        }

        void addNeed(int other, int variant) {
            if (needCount >= MOST_NEEDS) {
                return;
            }
            needFeatures[needCount] = other;
            needVariants[needCount] = variant;
            needCount++;
        }

        void removeRule(int rule) {
            for (int i = rule; i + 1 < ruleCount; i++) {
                rules[i].take(rules[i + 1].condition, rules[i + 1].fixed, rules[i + 1].parts);
            }
            ruleCount--;
        }

        void count(int variant) {
            if (variant >= 0 && variant <= MOST_VARIANTS) {
                counts[variant]++;
            }
        }

        void removePerson(int place) {
            removeFrom(overrides, place);
            removeFrom(kept, place);
        }

        boolean isShared(int rule) {
            return rule >= 0 && rule < ruleCount && !rules[rule].isFixed();
        }

        private static void removeFrom(int[] row, int place) {
            for (int i = Math.max(0, place); i + 1 < row.length; i++) {
                row[i] = row[i + 1];
            }
            if (row.length > 0) {
                row[row.length - 1] = NONE;
            }
        }
    }

    /** The persons, in the order in which they came. */
    private static final class Persons {
        private final int[] keys = new int[MOST_PERSONS];
        private final int[] attributes = new int[MOST_PERSONS];
        private int count = 0;

        void become(Persons other) {
            System.arraycopy(other.keys, 0, keys, 0, MOST_PERSONS);
            System.arraycopy(other.attributes, 0, attributes, 0, MOST_PERSONS);
            count = other.count;
        }

        /** Takes a long, since told keys may stand in a row of longs. */
        int find(long key) {
            for (int i = 0; i < count; i++) {
                if (keys[i] == key) {
                    return i;
                }
            }
            return NONE;
        }

        void add(int key, int newAttributes) {
            if (count >= MOST_PERSONS) {
                return;
            }
            keys[count] = key;
            attributes[count] = newAttributes;
            count++;
        }

        void remove(int place) {
            for (int i = place; i + 1 < count; i++) {
                keys[i] = keys[i + 1];
                attributes[i] = attributes[i + 1];
            }
            count--;
        }
    }

    /** The steps that are still to be done, in the order in which they were told. */
    private static final class Steps {
        private final int[] times = new int[MOST_STEPS];
        private final int[] features = new int[MOST_STEPS];
        private final int[] rules = new int[MOST_STEPS];
        private final int[] variants = new int[MOST_STEPS];
        private final int[] parts = new int[MOST_STEPS];
        private int count = 0;

        void become(Steps other) {
            for (int i = 0; i < other.count; i++) {
                takeFrom(other, i, i);
            }
            count = other.count;
        }

        void add(int time, int feature, int rule, int variant, int part) {
            if (count >= MOST_STEPS) {
                return;
            }
            times[count] = time;
            features[count] = feature;
            rules[count] = rule;
            variants[count] = variant;
            parts[count] = part;
            count++;
        }

        /** The step that is due first, of several the one told first; NONE if none is due. */
        int firstTill(int time) {
            int first = NONE;
            for (int i = 0; i < count; i++) {
                if (times[i] <= time && (first == NONE || times[i] < times[first])) {
                    first = i;
                }
            }
            return first;
        }

        void remove(int place) {
            for (int i = place; i + 1 < count; i++) {
                takeFrom(this, i + 1, i);
            }
            count--;
        }

        private void takeFrom(Steps other, int from, int to) {
            times[to] = other.times[from];
            features[to] = other.features[from];
            rules[to] = other.rules[from];
            variants[to] = other.variants[from];
            parts[to] = other.parts[from];
        }
    }

    /** All that an image keeps. */
    private static final class Desk {
        private final Persons persons = new Persons();
        private final Feature[] features = new Feature[MOST_FEATURES];
        private int featureCount = 0;
        private final Steps steps = new Steps();
        private int now = 0;
        private int seed = 1;
        private int asked = 0;

        Desk() {
            for (int i = 0; i < MOST_FEATURES; i++) {
                features[i] = new Feature();
            }
        }

        void become(Desk other) {
            persons.become(other.persons);
            for (int i = 0; i < MOST_FEATURES; i++) {
                features[i].become(other.features[i]);
            }
            featureCount = other.featureCount;
            steps.become(other.steps);
            now = other.now;
            seed = other.seed;
            asked = other.asked;
        }

        void removePerson(int place) {
            persons.remove(place);
            for (int i = 0; i < featureCount; i++) {
                features[i].removePerson(place);
            }
        }

        /** The features (bits) that one needs, by others, too. */
        int neededBy(int feature) {
            int found = directNeeds(feature);
            for (int round = 0; round < MOST_FEATURES; round++) {
                int more = found;
                for (int i = 0; i < featureCount; i++) {
                    more |= hasBit(found, i) ? directNeeds(i) : 0;
                }
                if (more == found) {
                    break;
                }
                found = more;
            }
            return found;
        }

        private int directNeeds(int feature) {
            Feature f = features[feature];
            int bits = 0;
            for (int i = 0; i < f.needCount; i++) {
                bits |= 1 << f.needFeatures[i];
            }
            return bits;
        }

        /** Whether another feature in the layer has one of these buckets. */
        boolean isTaken(int feature, int layer, int from, int to) {
            for (int i = 0; i < featureCount; i++) {
                Feature f = features[i];
                if (i != feature && f.layer == layer && f.from <= to && from <= f.to) {
                    return true;
                }
            }
            return false;
        }

        int goOn(int n) {
            now += n;
            return doSteps(now);
        }

        int doSteps(int until) {
            int done = 0;
            for (int turn = 0; turn < MOST_STEPS; turn++) {
                int next = steps.firstTill(until);
                if (next == NONE) {
                    break;
                }
                setPart(steps.features[next], steps.rules[next], steps.variants[next], steps.parts[next]);
                steps.remove(next);
                done++;
            }
            return done;
        }

        /** Does nothing where there is no such rule, or it is fixed. */
        void setPart(int feature, int rule, int variant, int v) {
            if (feature < 0 || feature >= featureCount || variant < 1 || variant > MOST_VARIANTS) {
                return;
            }
            if (features[feature].isShared(rule)) {
                features[feature].rules[rule].parts[variant - 1] = v;
            }
        }

        int draw(int n) {
            seed = seed * 1103515245 + 12345;
            return n > 0 ? (seed >>> 16) % n : 0;
        }

        int countRules() {
            int all = 0;
            for (int i = 0; i < featureCount; i++) {
                all += features[i].ruleCount;
            }
            return all;
        }

        int countNeeds() {
            int all = 0;
            for (int i = 0; i < featureCount; i++) {
                all += features[i].needCount;
            }
            return all;
        }

        int countKept() {
            int all = 0;
            for (int i = 0; i < featureCount; i++) {
                all += countSome(features[i].kept);
            }
            return all;
        }
    }

    /** Answers of features for one person, and the order in which they were found. */
    private static final class Answers {
        private final int[] variants = new int[MOST_FEATURES];
        private final int[] reasons = new int[MOST_FEATURES];
        private final int[] numbers = new int[MOST_FEATURES];
        private final int[] path = new int[MOST_FEATURES];
        private int pathLength = 0;
        private int known = 0;

        void begin() {
            pathLength = 0;
            known = 0;
        }

        boolean knows(int feature) {
            return hasBit(known, feature);
        }

        int variantOf(int feature) {
            return feature >= 0 && feature < MOST_FEATURES ? variants[feature] : NONE;
        }

        void put(int feature, int variant, int reason, int number) {
            if (feature < 0 || feature >= MOST_FEATURES || pathLength >= MOST_FEATURES) {
                return;
            }
            variants[feature] = variant;
            reasons[feature] = reason;
            numbers[feature] = number;
            path[pathLength] = feature;
            pathLength++;
            known |= 1 << feature;
        }
    }
}
