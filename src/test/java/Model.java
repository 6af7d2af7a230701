import java.util.ArrayList;
import java.util.Arrays;
import java.util.HashMap;
import java.util.List;
import java.util.Map;
import java.util.TreeMap;

/**
 * The document once more, as naively as it goes (recursion, lists, maps, trying out): ModelTest holds the
 * program against it. Where the program is clever, this one tries everything.
 */
public final class Model {
    static final int NONE = -1;

    static final class Refused extends RuntimeException {
        final int number;

        Refused(int number) {
            super(null, null, false, false);
            this.number = number;
        }
    }

    static final class Fault extends RuntimeException {
        final int place;

        Fault(int place) {
            super(null, null, false, false);
            this.place = place;
        }
    }

    /** A condition as a tree. */
    static final class Tree {
        int kind;
        int a;
        int b;
        char sign;
        List<Tree> parts = new ArrayList<>();

        Tree(int kind, Tree... parts) {
            this.kind = kind;
            this.parts.addAll(Arrays.asList(parts));
        }

        boolean so(Person p) {
            switch (kind) {
                case 3:
                    return !parts.get(0).so(p);
                case 5:
                    int digit = String.format("%04d", p.attributes).charAt(a) - '0';
                    return sign == '<' ? digit < b : sign == '=' ? digit == b : digit > b;
                case 6:
                    return a <= p.key && p.key <= b;
                case 7:
                    return parts.get(0).so(p) & parts.get(1).so(p);
                case 8:
                    return parts.get(0).so(p) | parts.get(1).so(p);
                default:
                    return true;
            }
        }

        /** With brackets around every pair. */
        String full() {
            switch (kind) {
                case 3:
                    return "!" + parts.get(0).full();
                case 4:
                    return "*";
                case 5:
                    return "" + "abcd".charAt(a) + sign + b;
                case 6:
                    return "#" + a + "-" + b;
                default:
                    return "(" + parts.get(0).full() + (kind == 7 ? "&" : "|") + parts.get(1).full() + ")";
            }
        }
    }

    static final class Parser {
        final String text;
        final int top;
        int at = 0;
        Tree tree;
        int fixed = NONE;
        int[] parts = new int[3];

        Parser(String text, int top) {
            this.text = text;
            this.top = top;
        }

        char peek() {
            if (at >= text.length()) {
                throw new Fault(text.length());
            }
            return text.charAt(at);
        }

        char oneOf(String letters) {
            if (letters.indexOf(peek()) < 0) {
                throw new Fault(at);
            }
            return text.charAt(at++);
        }

        boolean next(char letter) {
            return at < text.length() && text.charAt(at) == letter;
        }

        int number(int digits, int least, int most) {
            int from = at;
            oneOf("0123456789");
            while (at < text.length() && at - from < digits && Character.toString(text.charAt(at)).matches("[0-9]")) {
                at++;
            }
            int n = Integer.parseInt(text.substring(from, at));
            if (n < least || n > most) {
                throw new Fault(from);
            }
            return n;
        }

        Tree cond() {
            Tree t = boths();
            while (next('|')) {
                at++;
                t = new Tree(8, t, boths());
            }
            return t;
        }

        Tree boths() {
            Tree t = simple();
            while (next('&')) {
                at++;
                t = new Tree(7, t, simple());
            }
            return t;
        }

        Tree simple() {
            char c = oneOf("!(*abcd#");
            Tree t;
            switch (c) {
                case '!':
                    return new Tree(3, simple());
                case '(':
                    t = cond();
                    oneOf(")");
                    return t;
                case '*':
                    return new Tree(4);
                case '#':
                    t = new Tree(6);
                    t.a = number(6, 0, 999999);
                    oneOf("-");
                    t.b = number(6, t.a, 999999);
                    return t;
                default:
                    t = new Tree(5);
                    t.a = c - 'a';
                    t.sign = oneOf("<=>");
                    t.b = oneOf("0123456789") - '0';
                    return t;
            }
        }

        void rule() {
            tree = cond();
            if (oneOf(":%") == ':') {
                fixed = oneOf("0123456789".substring(0, top + 1)) - '0';
            } else {
                parts[0] = number(3, 0, 333);
                oneOf(",");
                parts[1] = number(3, 0, top >= 2 ? 333 : 0);
                oneOf(",");
                parts[2] = number(3, 0, top >= 3 ? 333 : 0);
            }
            if (at < text.length()) {
                throw new Fault(at);
            }
        }
    }

    static final class Rule {
        Tree tree;
        int fixed;
        int[] parts;
        String bare;

        Rule same() {
            Rule r = new Rule();
            r.tree = tree;
            r.fixed = fixed;
            r.parts = parts.clone();
            r.bare = bare;
            return r;
        }
    }

    static final class Person {
        int key;
        int attributes;
    }

    static final class Step {
        int time;
        int feature;
        int rule;
        int variant;
        int part;
    }

    static final class Feat {
        int top;
        boolean killed;
        boolean sticky;
        int fallback;
        List<Rule> rules = new ArrayList<>();
        List<int[]> needs = new ArrayList<>();
        Map<Integer, Integer> overrides = new HashMap<>();
        Map<Integer, Integer> kept = new HashMap<>();
        int layer = NONE;
        int from;
        int to;
        int[] counts = new int[4];

        Feat same() {
            Feat f = new Feat();
            f.top = top;
            f.killed = killed;
            f.sticky = sticky;
            f.fallback = fallback;
            for (Rule r : rules) {
                f.rules.add(r.same());
            }
            f.needs.addAll(needs);
            f.overrides.putAll(overrides);
            f.kept.putAll(kept);
            f.layer = layer;
            f.from = from;
            f.to = to;
            f.counts = counts.clone();
            return f;
        }
    }

    static final class State {
        List<Person> persons = new ArrayList<>();
        List<Feat> features = new ArrayList<>();
        List<Step> steps = new ArrayList<>();
        int now = 0;
        int seed = 1;
        int asked = 0;

        State same() {
            State s = new State();
            for (Person p : persons) {
                Person q = new Person();
                q.key = p.key;
                q.attributes = p.attributes;
                s.persons.add(q);
            }
            for (Feat f : features) {
                s.features.add(f.same());
            }
            s.steps.addAll(steps);
            s.now = now;
            s.seed = seed;
            s.asked = asked;
            return s;
        }

        Person personOf(long key) {
            for (Person p : persons) {
                if (p.key == key) {
                    return p;
                }
            }
            return null;
        }

        int doSteps(int until) {
            TreeMap<Integer, List<Step>> byTime = new TreeMap<>();
            List<Step> rest = new ArrayList<>();
            int done = 0;
            for (Step s : steps) {
                if (s.time <= until) {
                    byTime.computeIfAbsent(s.time, t -> new ArrayList<>()).add(s);
                    done++;
                } else {
                    rest.add(s);
                }
            }
            for (List<Step> list : byTime.values()) {
                for (Step s : list) {
                    List<Rule> rules = features.get(s.feature).rules;
                    if (s.rule < rules.size() && rules.get(s.rule).fixed == NONE) {
                        rules.get(s.rule).parts[s.variant - 1] = s.part;
                    }
                }
            }
            steps = rest;
            return done;
        }

        int draw(int n) {
            seed = (int) (seed * 1103515245L + 12345L);
            return (int) ((seed & 0xffffffffL) >> 16) % n;
        }

        /** FEATURE, REASON, NUMBER, VARIANT. */
        int[] answer(int number, Person p) {
            Feat f = features.get(number);
            if (f.overrides.containsKey(p.key)) {
                return new int[] {number, 1, NONE, f.overrides.get(p.key)};
            }
            if (f.killed) {
                return new int[] {number, 2, NONE, 0};
            }
            for (int[] need : f.needs) {
                if (answer(need[0], p)[3] != need[1]) {
                    return new int[] {number, 3, need[0], 0};
                }
            }
            if (f.layer != NONE) {
                int b = bucketOf(f.layer + 100, p.key);
                if (!(f.from <= b && b <= f.to)) {
                    return new int[] {number, 4, f.layer, 0};
                }
            }
            if (f.kept.containsKey(p.key)) {
                return new int[] {number, 5, NONE, f.kept.get(p.key)};
            }
            for (int i = 0; i < f.rules.size(); i++) {
                Rule r = f.rules.get(i);
                if (r.tree.so(p)) {
                    return new int[] {number, 6, i, r.fixed != NONE ? r.fixed : shared(r, bucketOf(number + 1, p.key))};
                }
            }
            return new int[] {number, 7, NONE, f.fallback};
        }

        static int shared(Rule r, int bucket) {
            int v = bucket / 333 + 1;
            return v <= 3 && bucket % 333 < r.parts[v - 1] ? v : 0;
        }

        List<int[]> path(int number, Person p) {
            List<int[]> path = new ArrayList<>();
            walk(number, p, path);
            return path;
        }

        void walk(int number, Person p, List<int[]> path) {
            for (int[] there : path) {
                if (there[0] == number) {
                    return;
                }
            }
            int[] own = answer(number, p);
            if (own[1] >= 3) {
                for (int[] need : features.get(number).needs) {
                    walk(need[0], p, path);
                    if (answer(need[0], p)[3] != need[1]) {
                        break;
                    }
                }
            }
            path.add(own);
        }
    }

    State now = new State();
    State image = null;
    String tape = "";
    /** null, a Long[] behind its sort, or a tree. */
    Object[] shelves = new Object[8];
    int[] sorts = new int[8];
    int[] refusals = new int[5];

    static int bucketOf(int salt, int key) {
        int z = key + 101 * salt;
        for (int i = 0; i < 2; i++) {
            z = z ^ (z >>> 16);
            z = z * 73244475;
        }
        z = z ^ (z >>> 16);
        return (z >>> 1) % 1000;
    }

    static void bad(boolean so) {
        if (so) {
            throw new Refused(-32);
        }
    }

    static void refuse(boolean so, int number) {
        if (so) {
            throw new Refused(number);
        }
    }

    void badShelf(int s) {
        bad(s < 0 || s > 7);
    }

    Feat feat(int f) {
        bad(f < 0 || f >= now.features.size());
        return now.features.get(f);
    }

    Rule rul(int f, int r) {
        bad(r < 0 || r >= feat(f).rules.size());
        return feat(f).rules.get(r);
    }

    Person pers(int key) {
        Person p = now.personOf(key);
        bad(p == null);
        return p;
    }

    void badVariant(int f, int v) {
        bad(v < 0 || v > feat(f).top);
    }

    interface Call {
        long run();
    }

    long refusing(Call call) {
        try {
            return call.run();
        } catch (Refused r) {
            refusals[-32 - r.number]++;
            return r.number;
        }
    }

    public int row(int s, int sort, int n) {
        return (int) refusing(() -> {
            badShelf(s);
            bad(sort < 0 || sort > 4 || n < 0 || n > 40);
            long[] row = new long[n];
            shelves[s] = row;
            sorts[s] = sort;
            return 1;
        });
    }

    long[] rowIn(int s) {
        badShelf(s);
        refuse(shelves[s] instanceof Tree, -33);
        refuse(shelves[s] == null, -34);
        return (long[]) shelves[s];
    }

    public int set(int s, int i, long v) {
        return (int) refusing(() -> {
            long[] row = rowIn(s);
            bad(i < 0 || i >= row.length);
            long[] kept = {(byte) v, (short) v, (int) v, v, v != 0 ? 1 : 0};
            row[i] = kept[sorts[s]];
            return 1;
        });
    }

    public int copy(int p, int q, int i, int j, int n) {
        return (int) refusing(() -> {
            badShelf(p);
            badShelf(q);
            refuse(shelves[p] instanceof Tree || shelves[q] instanceof Tree, -33);
            refuse(shelves[p] != null && shelves[q] != null && sorts[p] != sorts[q], -33);
            refuse(shelves[p] == null || shelves[q] == null, -34);
            long[] a = ((long[]) shelves[p]).clone();
            long[] b = (long[]) shelves[q];
            bad(i < 0 || j < 0 || n < 0 || (long) i + n > a.length || (long) j + n > b.length);
            for (int k = 0; k < n; k++) {
                b[j + k] = a[i + k];
            }
            return n;
        });
    }

    public long element(int s, int i) {
        if (s < 0 || s > 7 || !(shelves[s] instanceof long[])) {
            return 0;
        }
        long[] row = (long[]) shelves[s];
        return i >= 0 && i < row.length ? row[i] : 0;
    }

    public int holds(int s) {
        if (s < 0 || s > 7 || shelves[s] == null) {
            return NONE;
        }
        return shelves[s] instanceof Tree ? 10 + ((Tree) shelves[s]).kind : sorts[s];
    }

    public int show(int s, int feature, int rule, int part) {
        return (int) refusing(() -> {
            badShelf(s);
            if (feature == NONE) {
                shelves[s] = null;
                return 1;
            }
            Tree t = rul(feature, rule).tree;
            bad(part < 0 || part > t.parts.size());
            shelves[s] = part == 0 ? t : t.parts.get(part - 1);
            return 1;
        });
    }

    public int says(int s, int kind) {
        return (int) refusing(() -> {
            badShelf(s);
            bad(kind < 0 || kind > 8);
            refuse(shelves[s] instanceof long[], -33);
            refuse(shelves[s] == null, -34);
            Tree t = (Tree) shelves[s];
            boolean fits = kind == 0 || kind == t.kind || kind == 1 && t.kind >= 4 && t.kind <= 6 || kind == 2 && t.kind >= 7;
            refuse(!fits, -33);
            int so = 0;
            int one = 0;
            int both = 0;
            for (Person p : now.persons) {
                so += t.so(p) ? 1 : 0;
                if (t.kind >= 7) {
                    boolean a = t.parts.get(0).so(p);
                    boolean b = t.parts.get(1).so(p);
                    one += a != b ? 1 : 0;
                    both += a && b ? 1 : 0;
                }
            }
            switch (kind) {
                case 0:
                    return so;
                case 1:
                    return t.kind == 4 ? 0 : t.kind == 5 ? 1 : 2;
                case 2:
                    return t.parts.get(1).kind;
                case 3:
                    return t.parts.get(0).kind;
                case 4:
                    return 1;
                case 5:
                    return 10 * t.a + t.b;
                case 6:
                    return t.b - t.a + 1;
                case 7:
                    return one;
                default:
                    return both;
            }
        });
    }

    public int feed(int letter) {
        return (int) refusing(() -> {
            bad(letter < 0 || letter > 255);
            refuse(tape.length() >= 250, -36);
            tape += (char) letter;
            return tape.length();
        });
    }

    public int wipe() {
        int n = tape.length();
        tape = "";
        return n;
    }

    public int person(int key, int attributes) {
        return (int) refusing(() -> {
            bad(key < 0 || key > 999999 || attributes < 0 || attributes > 9999);
            Person p = now.personOf(key);
            if (p == null) {
                refuse(now.persons.size() >= 24, -36);
                p = new Person();
                p.key = key;
                now.persons.add(p);
            }
            p.attributes = attributes;
            return now.persons.size();
        });
    }

    public int gone(int key) {
        return (int) refusing(() -> {
            now.persons.remove(pers(key));
            for (Feat f : now.features) {
                f.overrides.remove(key);
                f.kept.remove(key);
            }
            return now.persons.size();
        });
    }

    public int personOf(int i) {
        return (int) refusing(() -> {
            bad(i < 0 || i >= now.persons.size());
            return now.persons.get(i).key;
        });
    }

    public int attributes(int key) {
        return (int) refusing(() -> pers(key).attributes);
    }

    public int bucket(int salt, int key) {
        return (int) refusing(() -> {
            bad(salt < 0 || salt > 200 || key < 0 || key > 999999);
            return bucketOf(salt, key);
        });
    }

    public int feature(int n) {
        return (int) refusing(() -> {
            bad(n < 1 || n > 3);
            refuse(now.features.size() >= 12, -36);
            Feat f = new Feat();
            f.top = n;
            now.features.add(f);
            return now.features.size() - 1;
        });
    }

    public int tell(int feature, int what, int v) {
        return (int) refusing(() -> {
            Feat f = feat(feature);
            bad(what < 0 || what > 2 || v < 0 || what < 2 && v > 1 || what == 2 && v > f.top);
            int was = what == 0 ? (f.killed ? 1 : 0) : what == 1 ? (f.sticky ? 1 : 0) : f.fallback;
            if (what == 0) {
                f.killed = v == 1;
            }
            if (what == 1) {
                f.sticky = v == 1;
            }
            if (what == 2) {
                f.fallback = v;
            }
            return was;
        });
    }

    public int rule(int feature) {
        String text = tape;
        tape = "";
        return (int) refusing(() -> {
            Feat f = feat(feature);
            Parser parser = new Parser(text, f.top);
            try {
                parser.rule();
            } catch (Fault fault) {
                refusals[0]++;
                return -500 - fault.place;
            }
            refuse(f.rules.size() >= 6, -36);
            Rule r = new Rule();
            r.tree = parser.tree;
            r.fixed = parser.fixed;
            r.parts = parser.parts;
            r.bare = bare(parser.tree);
            f.rules.add(r);
            return f.rules.size() - 1;
        });
    }

    /** Tries for every two brackets whether it is the same condition without them. */
    static String bare(Tree tree) {
        String full = tree.full();
        String text = full;
        for (int open = 0; open < text.length(); open++) {
            if (text.charAt(open) != '(') {
                continue;
            }
            int close = open;
            for (int depth = 0; close < text.length(); close++) {
                depth += text.charAt(close) == '(' ? 1 : text.charAt(close) == ')' ? -1 : 0;
                if (depth == 0) {
                    break;
                }
            }
            String less = text.substring(0, open) + text.substring(open + 1, close) + text.substring(close + 1);
            Parser again = new Parser(less, 1);
            if (again.cond().full().equals(full) && again.at == less.length()) {
                text = less;
                open--;
            }
        }
        return text;
    }

    public int drop(int feature, int rule) {
        return (int) refusing(() -> {
            rul(feature, rule);
            feat(feature).rules.remove(rule);
            return feat(feature).rules.size();
        });
    }

    Rule sharedRule(int feature, int rule, int variant) {
        Rule r = rul(feature, rule);
        badVariant(feature, variant);
        bad(variant == 0);
        return r;
    }

    public int part(int feature, int rule, int variant, int v) {
        return (int) refusing(() -> {
            Rule r = sharedRule(feature, rule, variant);
            bad(v < 0 || v > 333);
            refuse(r.fixed != NONE, -35);
            int was = r.parts[variant - 1];
            r.parts[variant - 1] = v;
            return was;
        });
    }

    boolean reachesByNeeds(int from, int to) {
        if (from == to) {
            return true;
        }
        for (int[] need : now.features.get(from).needs) {
            if (reachesByNeeds(need[0], to)) {
                return true;
            }
        }
        return false;
    }

    public int needs(int feature, int other, int variant) {
        return (int) refusing(() -> {
            Feat f = feat(feature);
            badVariant(other, variant);
            refuse(reachesByNeeds(other, feature), -35);
            refuse(f.needs.size() >= 3, -36);
            f.needs.add(new int[] {other, variant});
            return f.needs.size();
        });
    }

    public int free(int feature) {
        return (int) refusing(() -> {
            int n = feat(feature).needs.size();
            feat(feature).needs.clear();
            return n;
        });
    }

    public int override(int feature, int key, int variant) {
        return (int) refusing(() -> {
            Feat f = feat(feature);
            pers(key);
            bad(variant < NONE || variant > f.top);
            int was = f.overrides.getOrDefault(key, NONE);
            if (variant == NONE) {
                f.overrides.remove(key);
                return was;
            }
            refuse(was == NONE && f.overrides.size() >= 8, -36);
            f.overrides.put(key, variant);
            return was;
        });
    }

    public int layer(int feature, int layer, int from, int to) {
        return (int) refusing(() -> {
            Feat f = feat(feature);
            bad(layer < NONE || layer > 3);
            if (layer != NONE) {
                bad(from < 0 || to < from || to > 999);
                for (Feat g : now.features) {
                    for (int b = from; b <= to; b++) {
                        refuse(g != f && g.layer == layer && g.from <= b && b <= g.to, -35);
                    }
                }
                f.from = from;
                f.to = to;
            }
            f.layer = layer;
            return 1;
        });
    }

    public int step(int time, int feature, int rule, int variant, int part) {
        return (int) refusing(() -> {
            bad(time < now.now || time > 1000000 || rule < 0 || rule > 5 || part < 0 || part > 333);
            badVariant(feature, variant);
            bad(variant == 0);
            refuse(now.steps.size() >= 24, -36);
            Step s = new Step();
            s.time = time;
            s.feature = feature;
            s.rule = rule;
            s.variant = variant;
            s.part = part;
            now.steps.add(s);
            return now.steps.size();
        });
    }

    public int pass(int n) {
        return (int) refusing(() -> {
            bad(n < 0 || n > 999);
            now.now += n;
            return now.doSteps(now.now);
        });
    }

    int askIt(int feature, Person p) {
        int[] a = now.answer(feature, p);
        Feat f = now.features.get(feature);
        f.counts[a[3]]++;
        now.asked++;
        if (f.sticky && a[1] == 6 && f.rules.get(a[2]).fixed == NONE && a[3] != 0) {
            f.kept.put(p.key, a[3]);
        }
        return a[3];
    }

    public int ask(int feature, int key) {
        return (int) refusing(() -> {
            feat(feature);
            return askIt(feature, pers(key));
        });
    }

    public int would(int feature, int key, int what) {
        return (int) refusing(() -> {
            feat(feature);
            Person p = pers(key);
            bad(what < 0 || what > 3);
            int[] a = now.answer(feature, p);
            return what == 3 ? now.path(feature, p).size() : what == 0 ? a[3] : a[what];
        });
    }

    public int path(int feature, int key, int i, int what) {
        return (int) refusing(() -> {
            feat(feature);
            Person p = pers(key);
            bad(what < 0 || what > 3);
            List<int[]> path = now.path(feature, p);
            bad(i < 0 || i >= path.size());
            return path.get(i)[what];
        });
    }

    public int later(int feature, int key, int time) {
        return (int) refusing(() -> {
            feat(feature);
            pers(key);
            bad(time < now.now || time > now.now + 9999);
            State then = now.same();
            then.doSteps(time);
            return then.answer(feature, then.personOf(key))[3];
        });
    }

    public int reach(int feature, int variant) {
        return (int) refusing(() -> {
            badVariant(feature, variant);
            return reachIn(now, feature, variant);
        });
    }

    static int reachIn(State s, int feature, int variant) {
        int n = 0;
        for (Person p : s.persons) {
            n += s.answer(feature, p)[3] == variant ? 1 : 0;
        }
        return n;
    }

    public int counted(int feature, int variant) {
        return (int) refusing(() -> {
            badVariant(feature, variant);
            return feat(feature).counts[variant];
        });
    }

    public int by(int feature, int reason) {
        return (int) refusing(() -> {
            feat(feature);
            bad(reason < 1 || reason > 7);
            int bits = 0;
            for (int i = 0; i < now.persons.size(); i++) {
                bits += now.answer(feature, now.persons.get(i))[1] == reason ? 1 << i : 0;
            }
            return bits;
        });
    }

    public int so(int feature, int rule) {
        return (int) refusing(() -> {
            Rule r = rul(feature, rule);
            int bits = 0;
            for (int i = 0; i < now.persons.size(); i++) {
                bits += r.tree.so(now.persons.get(i)) ? 1 << i : 0;
            }
            return bits;
        });
    }

    public int grow(int feature, int rule, int variant, int n) {
        return (int) refusing(() -> {
            Rule r = sharedRule(feature, rule, variant);
            bad(n < 0 || n > 24);
            refuse(r.fixed != NONE, -35);
            State then = now.same();
            for (int v = 0; v <= 333; v++) {
                then.features.get(feature).rules.get(rule).parts[variant - 1] = v;
                if (reachIn(then, feature, variant) >= n) {
                    return v;
                }
            }
            return NONE;
        });
    }

    public int moved(int feature, int rule, int variant, int v) {
        return (int) refusing(() -> {
            Rule r = sharedRule(feature, rule, variant);
            bad(v < 0 || v > 333);
            refuse(r.fixed != NONE, -35);
            State then = now.same();
            then.features.get(feature).rules.get(rule).parts[variant - 1] = v;
            int bits = 0;
            for (int i = 0; i < now.persons.size(); i++) {
                Person p = now.persons.get(i);
                bits += now.answer(feature, p)[3] != then.answer(feature, p)[3] ? 1 << i : 0;
            }
            return bits;
        });
    }

    public int shakes(int feature) {
        return (int) refusing(() -> {
            feat(feature);
            State then = now.same();
            then.features.get(feature).killed ^= true;
            int bits = 0;
            for (int f = 0; f < now.features.size(); f++) {
                for (Person p : now.persons) {
                    bits |= now.answer(f, p)[3] != then.answer(f, p)[3] ? 1 << f : 0;
                }
            }
            return bits;
        });
    }

    public int overlap(int feature, int other) {
        return (int) refusing(() -> {
            feat(feature);
            feat(other);
            int bits = 0;
            for (int i = 0; i < now.persons.size(); i++) {
                Person p = now.persons.get(i);
                bits |= now.answer(feature, p)[3] != 0 && now.answer(other, p)[3] != 0 ? 1 << i : 0;
            }
            return bits;
        });
    }

    public int needed(int feature) {
        return (int) refusing(() -> {
            feat(feature);
            int bits = 0;
            for (int f = 0; f < now.features.size(); f++) {
                bits |= f != feature && reachesByNeeds(feature, f) ? 1 << f : 0;
            }
            return bits;
        });
    }

    public int kept(int feature, int key) {
        return (int) refusing(() -> {
            pers(key);
            return feat(feature).kept.getOrDefault(key, NONE);
        });
    }

    public int forget(int feature) {
        return (int) refusing(() -> {
            int n = feat(feature).kept.size();
            feat(feature).kept.clear();
            return n;
        });
    }

    public int spelled(int feature, int rule, int i) {
        return (int) refusing(() -> {
            Rule r = rul(feature, rule);
            String tail = r.fixed != NONE ? ":" + r.fixed : "%" + r.parts[0] + "," + r.parts[1] + "," + r.parts[2];
            String text = r.bare + tail;
            return i >= 0 && i < text.length() ? text.charAt(i) : NONE;
        });
    }

    public int featureOf(int feature, int what) {
        return (int) refusing(() -> {
            Feat f = feat(feature);
            bad(what < 0 || what > 9);
            int range = f.layer == NONE ? 0 : f.to + 1 - f.from;
            return new int[] {f.top, f.killed ? 1 : 0, f.sticky ? 1 : 0, f.fallback, f.rules.size(), f.needs.size(),
                f.overrides.size(), f.layer, range, f.kept.size()}[what];
        });
    }

    public int judge(int feature, int s, int n) {
        return (int) refusing(() -> {
            feat(feature);
            badShelf(s);
            bad(n < 0 || n > 20);
            long[] row = rowIn(s);
            bad(row.length < 2 * n);
            for (int i = 0; i < n; i++) {
                refuse(now.personOf(row[2 * i]) == null, -35);
            }
            for (int i = 0; i < n; i++) {
                if (now.answer(feature, now.personOf(row[2 * i]))[3] != row[2 * i + 1]) {
                    return i;
                }
            }
            return NONE;
        });
    }

    public int days(int n) {
        return (int) refusing(() -> {
            bad(n < 1 || n > 60);
            refuse(now.features.isEmpty() || now.persons.isEmpty(), -35);
            int on = 0;
            for (int i = 0; i < n; i++) {
                int f = now.draw(now.features.size());
                Person p = now.persons.get(now.draw(now.persons.size()));
                on += askIt(f, p) != 0 ? 1 : 0;
                now.now += now.draw(4);
                now.doSteps(now.now);
            }
            return on;
        });
    }

    public int seed(int v) {
        int was = now.seed;
        now.seed = v;
        return was;
    }

    public int image() {
        image = now.same();
        return 1;
    }

    public int back() {
        return (int) refusing(() -> {
            refuse(image == null, -35);
            now = image.same();
            return 1;
        });
    }

    public int status(int what) {
        int rules = 0;
        int needs = 0;
        int kept = 0;
        int held = 0;
        for (Feat f : now.features) {
            rules += f.rules.size();
            needs += f.needs.size();
            kept += f.kept.size();
        }
        for (Object o : shelves) {
            held += o != null ? 1 : 0;
        }
        int[] all = {now.persons.size(), now.features.size(), rules, needs, now.steps.size(), now.now, kept, now.asked,
            tape.length(), now.seed, held, NONE, refusals[0], refusals[1], refusals[2], refusals[3], refusals[4]};
        return what >= 0 && what < all.length ? all[what] : NONE;
    }
}
