import java.util.ArrayList;
import java.util.Arrays;
import java.util.Comparator;
import java.util.HashMap;
import java.util.HashSet;
import java.util.LinkedHashMap;
import java.util.List;
import java.util.Map;
import java.util.Set;
import java.util.TreeSet;

/**
 * The document told a second time, slowly and by other means (recursive descent, exceptions, sets, whole
 * tables), so that random runs can be compared with OnlyUpward.
 */
final class Oracle {
    static final Set<String> WORDS = new HashSet<>(Arrays.asList("place", "person", "birth", "thing", "thin", "at",
            "knows", "must", "act", "task", "say", "ask", "if", "or", "and", "not", "mine", "yours", "hour", "crowd"));
    private static final Map<String, Integer> MOST = Map.ofEntries(Map.entry("place", 6), Map.entry("person", 10),
            Map.entry("thing", 6), Map.entry("thin", 8), Map.entry("at", 20), Map.entry("knows", 12),
            Map.entry("must", 12), Map.entry("act", 6), Map.entry("task", 4), Map.entry("say", 4), Map.entry("ask", 4));

    private static final class Fault extends RuntimeException {
        private static final long serialVersionUID = 1;
        final int number;
        final int at;

        Fault(int number, int at) {
            super(null, null, false, false);
            this.number = number;
            this.at = at;
        }
    }

    private record Tok(char type, String text, int at) {
    }

    private record Env(int mine, int yours, int hour, int crowd) {
    }

    private interface Num {
        int of(Env e);
    }

    private interface Cond {
        boolean of(Env e);
    }

    private record Person(int age, int birth) {
        int at(int hour) {
            return hour >= birth ? age + 1 : age;
        }
    }

    private record Stay(int person, int place, int from, int to) {
    }

    private record Must(int person, int thing, int hour) {
    }

    private record Act(int thing, int cost) {
    }

    record Doing(int sort, int hour, int person, int other, int thing) {
    }

    private static final class Village {
        int places = 0;
        final List<Person> people = new ArrayList<>();
        final List<Integer> things = new ArrayList<>();
        final List<int[]> walls = new ArrayList<>();
        final List<Stay> stays = new ArrayList<>();
        final List<int[]> known = new ArrayList<>();
        final List<Must> musts = new ArrayList<>();
        final List<Act> acts = new ArrayList<>();
        final List<Set<Integer>> tasks = new ArrayList<>();
        final List<Cond> say = new ArrayList<>();
        final List<Cond> ask = new ArrayList<>();
        final Map<String, String> kinds = new LinkedHashMap<>();
        final Map<String, Integer> numbers = new HashMap<>();
    }

    private Village v = new Village();
    private String tape = "";
    private int faultAt = -1;
    private List<Doing> plan = new ArrayList<>();
    private final List<List<Doing>> slots = new ArrayList<>(Arrays.asList(null, null, null));

    // ---- text

    int feed(int a, int b, int c, int d, int e) {
        if (tape.length() + 20 > 2000) {
            return -1;
        }
        StringBuilder more = new StringBuilder(tape);
        for (int four : new int[] {a, b, c, d, e}) {
            more.append((char) (four >>> 24)).append((char) (four >>> 16 & 255));
            more.append((char) (four >>> 8 & 255)).append((char) (four & 255));
        }
        tape = more.toString();
        return tape.length();
    }

    int back(int n) {
        if (n < 0 || n > tape.length()) {
            return -1;
        }
        tape = tape.substring(0, tape.length() - n);
        return tape.length();
    }

    private static List<Tok> cut(String text) {
        List<Tok> all = new ArrayList<>();
        java.util.regex.Matcher m = java.util.regex.Pattern
                .compile("[\\x09\\x0a\\x0d\\x20]+|([a-z]+)|([0-9]+)|(==|!=|<=|[;,+*/<()-])|([\\x00-\\xff])",
                        java.util.regex.Pattern.DOTALL)
                .matcher(text);
        while (m.find()) {
            if (m.group(1) != null) {
                boolean word = WORDS.contains(m.group());
                all.add(new Tok(m.group().length() > 8 ? '?' : word ? 'w' : 'n', m.group(), m.start()));
            } else if (m.group(2) != null) {
                all.add(new Tok(m.group().length() > 4 ? '?' : 'i', m.group(), m.start()));
            } else if (m.group(3) != null) {
                all.add(new Tok('s', m.group(), m.start()));
            } else if (m.group(4) != null) {
                all.add(new Tok('?', m.group(), m.start()));
            }
        }
        all.add(new Tok('$', "", text.length()));
        return all;
    }

    private List<Tok> toks;
    private int pos;
    private int open;

    private Tok peek() {
        return toks.get(pos);
    }

    private boolean sees(String... texts) {
        Tok t = peek();
        return (t.type == 'w' || t.type == 's') && Arrays.asList(texts).contains(t.text);
    }

    private Tok take(boolean fits) {
        Tok t = peek();
        if (!fits) {
            throw new Fault(1, t.at);
        }
        if (pos >= 400) {
            throw new Fault(2, t.at);
        }
        pos++;
        return t;
    }

    private Tok sign(String text) {
        return take(sees(text));
    }

    private Tok name() {
        return take(peek().type == 'n');
    }

    private Tok number() {
        return take(peek().type == 'i');
    }

    private record Tell(String kind, List<Tok> names, List<Tok> ints, Cond cond) {
    }

    private List<Tell> parse() {
        List<Tell> tells = new ArrayList<>();
        Map<String, Integer> counts = new HashMap<>();
        while (peek().type != '$') {
            Tok first = peek();
            if (first.type != 'w' || !MOST.containsKey(first.text)) {
                throw new Fault(1, first.at);
            }
            if (counts.merge(first.text, 1, Integer::sum) > MOST.get(first.text)) {
                throw new Fault(2, first.at);
            }
            take(true);
            tells.add(tell(first.text));
            sign(";");
        }
        return tells;
    }

    private Tell tell(String kind) {
        List<Tok> names = new ArrayList<>();
        List<Tok> ints = new ArrayList<>();
        Cond cond = null;
        switch (kind) {
            case "place" -> names.add(name());
            case "person" -> {
                names.add(name());
                ints.add(number());
                if (sees("birth")) {
                    sign("birth");
                    ints.add(number());
                }
            }
            case "thing" -> {
                names.add(name());
                ints.add(number());
            }
            case "thin", "knows" -> {
                names.add(name());
                names.add(name());
            }
            case "at" -> {
                names.add(name());
                names.add(name());
                ints.add(number());
                ints.add(number());
            }
            case "must", "act" -> {
                names.add(name());
                names.add(name());
                ints.add(number());
            }
            case "task" -> {
                names.add(name());
                names.add(name());
                while (sees(",")) {
                    sign(",");
                    names.add(name());
                }
            }
            default -> {
                sign("if");
                open = 0;
                cond = cond();
            }
        }
        return new Tell(kind, names, ints, cond);
    }

    private Cond cond() {
        Cond left = conj();
        while (sees("or")) {
            sign("or");
            Cond a = left;
            Cond b = conj();
            left = e -> a.of(e) || b.of(e);
        }
        return left;
    }

    private Cond conj() {
        Cond left = lit();
        while (sees("and")) {
            sign("and");
            Cond a = left;
            Cond b = lit();
            left = e -> a.of(e) && b.of(e);
        }
        return left;
    }

    private Cond lit() {
        if (sees("not")) {
            sign("not");
            Cond inner = lit();
            return e -> !inner.of(e);
        }
        Num a = sum();
        String op = take(sees("==", "!=", "<", "<=")).text;
        Num b = sum();
        return e -> {
            try {
                int x = a.of(e);
                int y = b.of(e);
                return switch (op) {
                    case "==" -> x == y;
                    case "!=" -> x != y;
                    case "<" -> x < y;
                    default -> x <= y;
                };
            } catch (ArithmeticException byZero) {
                return false;
            }
        };
    }

    private Num sum() {
        Num left = part();
        while (sees("+", "-")) {
            boolean plus = take(true).text.equals("+");
            Num a = left;
            Num b = part();
            left = e -> {
                int x = a.of(e);
                int y = b.of(e);
                return plus ? x + y : x - y;
            };
        }
        return left;
    }

    private Num part() {
        Num left = unit();
        while (sees("*", "/")) {
            boolean times = take(true).text.equals("*");
            Num a = left;
            Num b = unit();
            left = e -> {
                int x = a.of(e);
                int y = b.of(e);
                return times ? x * y : x / y;
            };
        }
        return left;
    }

    private Num unit() {
        if (sees("(")) {
            if (open == 6) {
                throw new Fault(2, peek().at);
            }
            open++;
            sign("(");
            Num inner = sum();
            sign(")");
            open--;
            return inner;
        }
        if (sees("mine", "yours", "hour", "crowd")) {
            String which = take(true).text;
            return e -> switch (which) {
                case "mine" -> e.mine;
                case "yours" -> e.yours;
                case "hour" -> e.hour;
                default -> e.crowd;
            };
        }
        int value = Integer.parseInt(number().text);
        return e -> value;
    }

    int read() {
        String text = tape;
        tape = "";
        toks = cut(text);
        pos = 0;
        try {
            List<Tell> tells = parse();
            Village next = new Village();
            for (Tell t : tells) {
                perform(next, t);
            }
            v = next;
            plan = new ArrayList<>();
            slots.set(0, null);
            slots.set(1, null);
            slots.set(2, null);
            faultAt = -1;
            return 0;
        } catch (Fault f) {
            faultAt = f.at;
            return f.number;
        }
    }

    private static int bounded(Tok t, int low, int high) {
        int value = Integer.parseInt(t.text);
        if (value < low || value > high) {
            throw new Fault(5, t.at);
        }
        return value;
    }

    private static void fresh(Village n, Tok t, String kind, int number) {
        if (n.kinds.containsKey(t.text)) {
            throw new Fault(3, t.at);
        }
        n.kinds.put(t.text, kind);
        n.numbers.put(t.text, number);
    }

    private static int old(Village n, Tok t, String kind) {
        if (!kind.equals(n.kinds.get(t.text))) {
            throw new Fault(4, t.at);
        }
        return n.numbers.get(t.text);
    }

    private static void perform(Village n, Tell t) {
        List<Tok> names = t.names;
        List<Tok> ints = t.ints;
        switch (t.kind) {
            case "place" -> fresh(n, names.get(0), "place", n.places++);
            case "person" -> {
                fresh(n, names.get(0), "person", n.people.size());
                int age = bounded(ints.get(0), 0, 99);
                n.people.add(new Person(age, ints.size() > 1 ? bounded(ints.get(1), 0, 23) : 1000));
            }
            case "thing" -> {
                fresh(n, names.get(0), "thing", n.things.size());
                n.things.add(bounded(ints.get(0), 0, 99));
            }
            case "thin" -> {
                int a = old(n, names.get(0), "place");
                int b = old(n, names.get(1), "place");
                if (a == b) {
                    throw new Fault(5, names.get(1).at);
                }
                n.walls.add(new int[] {a, b});
            }
            case "at" -> {
                int p = old(n, names.get(0), "person");
                int l = old(n, names.get(1), "place");
                int a = bounded(ints.get(0), 0, 23);
                n.stays.add(new Stay(p, l, a, bounded(ints.get(1), a, 23)));
            }
            case "knows" -> n.known.add(new int[] {old(n, names.get(0), "person"), old(n, names.get(1), "thing")});
            case "must" -> n.musts.add(new Must(old(n, names.get(0), "person"), old(n, names.get(1), "thing"),
                    bounded(ints.get(0), 0, 23)));
            case "act" -> {
                fresh(n, names.get(0), "act", n.acts.size());
                n.acts.add(new Act(old(n, names.get(1), "thing"), bounded(ints.get(0), 1, 99)));
            }
            case "task" -> {
                fresh(n, names.get(0), "task", n.tasks.size());
                Set<Integer> needs = new TreeSet<>();
                for (Tok one : names.subList(1, names.size())) {
                    if (!needs.add(old(n, one, "thing"))) {
                        throw new Fault(3, one.at);
                    }
                }
                n.tasks.add(needs);
            }
            case "say" -> n.say.add(t.cond);
            default -> n.ask.add(t.cond);
        }
    }

    int place() {
        return faultAt;
    }

    // ---- people

    private boolean person(int... some) {
        return Arrays.stream(some).allMatch(p -> p >= 0 && p < v.people.size());
    }

    private boolean thing(int t) {
        return t >= 0 && t < v.things.size();
    }

    private static boolean hour(int h) {
        return 0 <= h && h < 24;
    }

    private static boolean end(int h) {
        return 0 <= h && h < 25;
    }

    private boolean set(int s) {
        return s >= 0 && s < 1 << v.people.size();
    }

    private static int bits(Set<Integer> some) {
        return some.stream().mapToInt(i -> 1 << i).sum();
    }

    private static Set<Integer> members(int bits) {
        Set<Integer> some = new TreeSet<>();
        for (int i = 0; i < 10; i++) {
            if ((bits & 1 << i) != 0) {
                some.add(i);
            }
        }
        return some;
    }

    private int spot(int p, int h, int alive) {
        if ((alive & 1 << p) == 0) {
            return -2;
        }
        int at = v.places > 0 ? 0 : -2;
        for (Stay s : v.stays) {
            if (s.person == p && s.from <= h && h <= s.to) {
                at = s.place;
            }
        }
        return at;
    }

    private Set<Integer> at(int place, int h, int alive) {
        Set<Integer> some = new TreeSet<>();
        for (int p = 0; p < v.people.size() && place >= 0; p++) {
            if (spot(p, h, alive) == place) {
                some.add(p);
            }
        }
        return some;
    }

    private Set<Integer> ears(int place, int h, int alive) {
        Set<Integer> some = at(place, h, alive);
        for (int[] w : v.walls) {
            if (w[0] == place) {
                some.addAll(at(w[1], h, alive));
            } else if (w[1] == place) {
                some.addAll(at(w[0], h, alive));
            }
        }
        return some;
    }

    private static final int EVERYBODY = -1;

    private boolean mays(int p, int q, int h, boolean asking, int alive) {
        int place = spot(p, h, alive);
        if (place < 0 || spot(q, h, alive) != place) {
            return false;
        }
        Env e = new Env(v.people.get(p).at(h), v.people.get(q).at(h), h, at(place, h, alive).size());
        List<Cond> laws = asking ? v.ask : v.say;
        if (laws.isEmpty()) {
            return asking || e.mine <= e.yours;
        }
        return laws.stream().anyMatch(c -> c.of(e));
    }

    int age(int p, int h) {
        return person(p) && hour(h) ? v.people.get(p).at(h) : -1;
    }

    int where(int p, int h) {
        return person(p) && hour(h) ? spot(p, h, EVERYBODY) : -1;
    }

    int earshot(int place, int h) {
        return place >= 0 && place < v.places && hour(h) ? bits(ears(place, h, EVERYBODY)) : -1;
    }

    int may(int p, int q, int h, boolean asking) {
        return !person(p, q) || p == q || !hour(h) ? -1 : mays(p, q, h, asking, EVERYBODY) ? 1 : 0;
    }

    // ---- plan

    private int add(boolean fits, Doing d) {
        if (!fits || plan.size() == 30) {
            return -1;
        }
        plan.add(d);
        return plan.size() - 1;
    }

    int say(int h, int p, int q, int t) {
        return add(hour(h) && person(p, q) && p != q && thing(t), new Doing(0, h, p, q, t));
    }

    int show(int h, int p, int a) {
        boolean fits = hour(h) && person(p) && a >= 0 && a < v.acts.size();
        return add(fits, new Doing(1, h, p, a, fits ? v.acts.get(a).thing : -1));
    }

    int leave(int h, int p, int t) {
        return add(hour(h) && person(p) && thing(t), new Doing(2, h, p, -1, t));
    }

    int ask(int h, int p, int q, int t) {
        return add(hour(h) && person(p, q) && p != q && thing(t), new Doing(3, h, p, q, t));
    }

    int drop(int d) {
        if (d < 0 || d >= plan.size()) {
            return -1;
        }
        plan.remove(d);
        return plan.size();
    }

    int doing(int d, int what) {
        if (d < 0 || d >= plan.size()) {
            return -1;
        }
        Doing one = plan.get(d);
        return switch (what) {
            case 0 -> one.sort;
            case 1 -> one.hour;
            case 2 -> one.person;
            case 3 -> one.other;
            case 4 -> one.thing;
            case 5 -> run(null).reasons[d];
            default -> -1;
        };
    }

    boolean hold(int slot) {
        if (slot < 0 || slot > 2) {
            return false;
        }
        slots.set(slot, new ArrayList<>(plan));
        return true;
    }

    boolean restore(int slot) {
        if (slot < 0 || slot > 2 || slots.get(slot) == null) {
            return false;
        }
        plan = new ArrayList<>(slots.get(slot));
        return true;
    }

    private static final class Outcome {
        boolean[][][] know;
        Set<String> seen = new HashSet<>();
        int[] reasons;
        int cost = 0;
        int done = 0;
    }

    private boolean[][] first() {
        boolean[][] k = new boolean[v.people.size()][v.things.size()];
        for (int[] one : v.known) {
            k[one[0]][one[1]] = true;
        }
        return k;
    }

    private static boolean[][] copy(boolean[][] k) {
        boolean[][] c = new boolean[k.length][];
        for (int i = 0; i < k.length; i++) {
            c[i] = k[i].clone();
        }
        return c;
    }

    /** alive: for each hour 0 .. 23 who is alive; null: all. */
    private Outcome run(int[] alive) {
        Outcome o = new Outcome();
        o.know = new boolean[25][][];
        o.know[0] = first();
        o.reasons = new int[plan.size()];
        List<int[]> writings = new ArrayList<>();
        for (int h = 0; h < 24; h++) {
            int living = alive == null ? EVERYBODY : alive[h];
            boolean[][] now = o.know[h];
            boolean[][] next = copy(now);
            for (int[] w : writings) {
                for (int p : at(w[0], h, living)) {
                    next[p][w[1]] = true;
                }
            }
            Set<Integer> busy = new HashSet<>();
            for (int i = 0; i < plan.size(); i++) {
                Doing d = plan.get(i);
                if (d.hour != h) {
                    continue;
                }
                int place = spot(d.person, h, living);
                boolean talk = d.sort == 0 || d.sort == 3;
                int why = 0;
                if ((living & 1 << d.person) == 0) {
                    why = 5;
                } else if (busy.contains(d.person)) {
                    why = 1;
                } else if (place < 0 || talk && spot(d.other, h, living) != place) {
                    why = 2;
                } else if (d.sort != 3 && !now[d.person][d.thing]) {
                    why = 3;
                } else if (talk && !mays(d.person, d.other, h, d.sort == 3, living)) {
                    why = 4;
                }
                busy.add(d.person);
                o.reasons[i] = why;
                if (why != 0) {
                    continue;
                }
                o.done++;
                Set<Integer> ears = ears(place, h, living);
                Set<Integer> learners = new HashSet<>();
                if (d.sort == 0) {
                    learners = ears;
                    o.cost += 1;
                } else if (d.sort == 1) {
                    learners = at(place, h, living);
                    o.cost += v.acts.get(d.other).cost;
                } else if (d.sort == 2) {
                    writings.add(new int[] {place, d.thing});
                    o.cost += 5;
                } else {
                    o.cost += 1;
                    if (now[d.other][d.thing] && mays(d.other, d.person, h, false, living)) {
                        learners = ears;
                    }
                    if (!now[d.person][d.thing]) {
                        for (int p : ears) {
                            if (p != d.person) {
                                for (int later = h + 1; later <= 24; later++) {
                                    o.seen.add(p + " " + d.person + " " + later + " " + d.thing);
                                }
                            }
                        }
                    }
                }
                for (int p : learners) {
                    next[p][d.thing] = true;
                }
            }
            o.know[h + 1] = next;
        }
        return o;
    }

    int judge() {
        int[] reasons = run(null).reasons;
        for (int h = 0; h < 24; h++) {
            for (int d = 0; d < plan.size(); d++) {
                if (plan.get(d).hour == h && reasons[d] != 0) {
                    return d;
                }
            }
        }
        return -2;
    }

    int cost() {
        return run(null).cost;
    }

    private static int bits(boolean[] some) {
        int b = 0;
        for (int i = 0; i < some.length; i++) {
            b += some[i] ? 1 << i : 0;
        }
        return b;
    }

    int knows(int p, int h) {
        return person(p) && end(h) ? bits(run(null).know[h][p]) : -1;
    }

    int when(int p, int t) {
        if (!person(p) || !thing(t)) {
            return -1;
        }
        boolean[][][] k = run(null).know;
        for (int h = 0; h <= 24; h++) {
            if (k[h][p][t]) {
                return h;
            }
        }
        return -2;
    }

    int seen(int p, int q, int h) {
        if (!person(p, q) || p == q || !end(h)) {
            return -1;
        }
        Outcome o = run(null);
        int b = 0;
        for (int t = 0; t < v.things.size(); t++) {
            b += o.seen.contains(p + " " + q + " " + h + " " + t) ? 1 << t : 0;
        }
        return b;
    }

    int lost(int p, int h) {
        if (!person(p) || !end(h)) {
            return -1;
        }
        boolean[][] k = run(null).know[h];
        int b = 0;
        for (int t = 0; t < v.things.size(); t++) {
            int knowers = 0;
            for (boolean[] one : k) {
                knowers += one[t] ? 1 : 0;
            }
            b += k[p][t] && knowers == 1 ? 1 << t : 0;
        }
        return b;
    }

    int before(int p, int h) {
        int b = lost(p, h);
        if (b == -1) {
            return -1;
        }
        return members(b).stream()
                .min(Comparator.<Integer>comparingInt(t -> -v.things.get(t)).thenComparingInt(t -> t)).orElse(-2);
    }

    private List<Integer> missedOf(boolean[][][] k) {
        List<Integer> m = new ArrayList<>();
        for (int i = 0; i < v.musts.size(); i++) {
            Must one = v.musts.get(i);
            if (!k[one.hour][one.person][one.thing]) {
                m.add(i);
            }
        }
        return m;
    }

    private int harmOf(boolean[][][] k) {
        return missedOf(k).stream().mapToInt(i -> v.things.get(v.musts.get(i).thing)).sum();
    }

    int missed(int i) {
        List<Integer> m = missedOf(run(null).know);
        return i == -1 ? m.size() : i >= 0 && i < m.size() ? m.get(i) : -1;
    }

    int harm() {
        return harmOf(run(null).know);
    }

    private List<Integer> byAge(int h) {
        List<Integer> all = new ArrayList<>(members((1 << v.people.size()) - 1));
        all.sort(Comparator.comparingInt(p -> -v.people.get(p).at(h)));
        return all;
    }

    int rank(int h, int i) {
        if (!end(h) || !person(i)) {
            return -1;
        }
        boolean[][] k = run(null).know[h];
        List<Integer> all = byAge(h);
        all.sort(Comparator.comparingInt(p -> -Integer.bitCount(bits(k[p]))));
        return all.get(i);
    }

    int share(int h, int n, int what) {
        if (!end(h) || n < 0 || n > 10 || what < 0 || what > 1) {
            return -1;
        }
        boolean[][] k = run(null).know[h];
        return byAge(0).stream().limit(what == 1 ? 10 : n).mapToInt(p -> Integer.bitCount(bits(k[p]))).sum();
    }

    // ---- spreading

    private int[] soons(int t, int knowers, int h0, int law, boolean aloud) {
        int n = v.people.size();
        int[] first = new int[n];
        Arrays.fill(first, 1000);
        for (int p : members(knowers)) {
            first[p] = h0;
        }
        List<int[]> writings = new ArrayList<>();
        for (int h = h0; h < 24; h++) {
            Set<Integer> learn = new HashSet<>();
            for (int[] w : writings) {
                if (w[1] < h) {
                    learn.addAll(at(w[0], h, EVERYBODY));
                }
            }
            for (int p = 0; p < n; p++) {
                int place = spot(p, h, EVERYBODY);
                if (first[p] > h || place < 0) {
                    continue;
                }
                for (int q = 0; q < n; q++) {
                    int mine = v.people.get(p).at(h);
                    int yours = v.people.get(q).at(h);
                    boolean lawful = law == 0 && p != q && mays(p, q, h, false, EVERYBODY) || law == 1 && yours <= mine
                            || law == 2;
                    if (p != q && spot(q, h, EVERYBODY) == place && lawful) {
                        learn.addAll(ears(place, h, EVERYBODY));
                    }
                }
                if (!aloud) {
                    for (Act a : v.acts) {
                        if (a.thing == t) {
                            learn.addAll(at(place, h, EVERYBODY));
                        }
                    }
                    writings.add(new int[] {place, h});
                }
            }
            for (int p : learn) {
                first[p] = Math.min(first[p], h + 1);
            }
        }
        return first;
    }

    private static int never(int h) {
        return h > 24 ? -2 : h;
    }

    int soon(int p, int t, int knowers, int h0, int law, boolean aloud) {
        if (!person(p) || !thing(t) || !set(knowers) || !hour(h0) || law < 0 || law > 3) {
            return -1;
        }
        return never(soons(t, knowers, h0, law, aloud)[p]);
    }

    int all(int t, int knowers, int h0, int law, boolean aloud) {
        if (!thing(t) || !set(knowers) || !hour(h0) || law < 0 || law > 3) {
            return -1;
        }
        return never(Arrays.stream(soons(t, knowers, h0, law, aloud)).max().orElse(h0));
    }

    private int knowersAtFirst(int t) {
        return bits(new HashSet<>(v.known.stream().filter(k -> k[1] == t).map(k -> k[0]).toList()));
    }

    int can(int what) {
        int can = 0;
        int bound = 0;
        for (Must m : v.musts) {
            if (soons(m.thing, knowersAtFirst(m.thing), 0, 0, false)[m.person] <= m.hour) {
                can++;
            } else {
                bound += v.things.get(m.thing);
            }
        }
        return what == 0 ? can : what == 1 ? bound : -1;
    }

    int task(int task, int p) {
        if (task < 0 || task >= v.tasks.size() || !person(p)) {
            return -1;
        }
        return never(v.tasks.get(task).stream().mapToInt(t -> soons(t, knowersAtFirst(t), 0, 0, false)[p]).max().getAsInt());
    }

    private record Way(int cost, int count, List<Integer> codes) {
        boolean betterThan(Way o) {
            if (o == null || cost != o.cost) {
                return o == null || cost < o.cost;
            }
            if (count != o.count) {
                return count < o.count;
            }
            for (int i = 0; i < codes.size() && i < o.codes.size(); i++) {
                if (!codes.get(i).equals(o.codes.get(i))) {
                    return codes.get(i) < o.codes.get(i);
                }
            }
            return false;
        }

        Way behind(int code, int price) {
            List<Integer> longer = new ArrayList<>();
            longer.add(code);
            longer.addAll(codes);
            return new Way(cost + price, code == 9999 ? count : count + 1, longer);
        }
    }

    private Way way(int p, int t, int known, int h, Map<Integer, Way> memo) {
        if ((known & 1 << p) != 0) {
            return new Way(0, 0, List.of());
        }
        if (h == 24) {
            return null;
        }
        int key = h * 1024 + known;
        if (memo.containsKey(key)) {
            return memo.get(key);
        }
        Way best = null;
        for (int a : members(known)) {
            int place = spot(a, h, EVERYBODY);
            for (int b = 0; b < v.people.size(); b++) {
                if (a != b && mays(a, b, h, false, EVERYBODY)) {
                    Way on = way(p, t, known | bits(ears(place, h, EVERYBODY)), h + 1, memo);
                    Way mine = on == null ? null : on.behind(20 * a + b, 1);
                    best = mine != null && mine.betterThan(best) ? mine : best;
                }
            }
            for (int i = 0; i < v.acts.size() && place >= 0; i++) {
                if (v.acts.get(i).thing == t) {
                    Way on = way(p, t, known | bits(at(place, h, EVERYBODY)), h + 1, memo);
                    Way mine = on == null ? null : on.behind(1000 + 20 * a + i, v.acts.get(i).cost);
                    best = mine != null && mine.betterThan(best) ? mine : best;
                }
            }
        }
        Way on = way(p, t, known, h + 1, memo);
        Way none = on == null ? null : on.behind(9999, 0);
        best = none != null && none.betterThan(best) ? none : best;
        memo.put(key, best);
        return best;
    }

    int cheap(int p, int t, int knowers, int h0, int what) {
        if (!person(p) || !thing(t) || !set(knowers) || !hour(h0) || what < 0 || what > 1) {
            return -1;
        }
        Way w = way(p, t, knowers, h0, new HashMap<>());
        return w == null ? -2 : what == 0 ? w.cost : w.count;
    }

    int cheapAt(int p, int t, int knowers, int h0, int i) {
        if (!person(p) || !thing(t) || !set(knowers) || !hour(h0) || i < 0) {
            return -1;
        }
        Way w = way(p, t, knowers, h0, new HashMap<>());
        List<Integer> steps = new ArrayList<>();
        for (int h = h0; w != null && h - h0 < w.codes.size(); h++) {
            if (w.codes.get(h - h0) != 9999) {
                steps.add(10000 * h + w.codes.get(h - h0));
            }
        }
        return i < steps.size() ? steps.get(i) : -1;
    }

    // ---- who hears

    private int younger(int p, int h) {
        Set<Integer> ears = ears(spot(p, h, EVERYBODY), h, EVERYBODY);
        ears.removeIf(q -> v.people.get(q).at(h) >= v.people.get(p).at(h));
        return bits(ears);
    }

    int secret(int p, int h) {
        if (!person(p) || !hour(h)) {
            return -1;
        }
        for (int q = 0; q < v.people.size(); q++) {
            if (q != p && mays(p, q, h, false, EVERYBODY) && younger(p, h) == 0) {
                return q;
            }
        }
        return -2;
    }

    int below(int p, int h) {
        if (!person(p) || !hour(h)) {
            return -1;
        }
        return spot(p, h, EVERYBODY) < 0 ? 0 : younger(p, h);
    }

    int stand(int place, int h, int some) {
        if (place < 0 || place >= v.places || !hour(h) || !set(some)) {
            return -1;
        }
        Set<Integer> left = members(some);
        left.removeAll(ears(place, h, EVERYBODY));
        return bits(left);
    }

    int best(int p, int h0, int some) {
        if (!person(p) || !hour(h0) || !set(some)) {
            return -1;
        }
        for (int h = h0; h < 24; h++) {
            int place = spot(p, h, EVERYBODY);
            boolean says = false;
            for (int q = 0; q < v.people.size(); q++) {
                says |= q != p && mays(p, q, h, false, EVERYBODY);
            }
            if (says && ears(place, h, EVERYBODY).containsAll(members(some))) {
                return h;
            }
        }
        return -2;
    }

    // ---- the rule

    private Outcome byRule() {
        Outcome o = new Outcome();
        o.know = new boolean[25][][];
        o.know[0] = first();
        for (int h = 0; h < 24; h++) {
            boolean[][] now = o.know[h];
            boolean[][] next = copy(now);
            for (int p : byAge(h)) {
                int place = spot(p, h, EVERYBODY);
                int most = 0;
                Set<Integer> people = null;
                int told = -1;
                int price = 0;
                for (int q = 0; q < v.people.size(); q++) {
                    for (int t = 0; t < v.things.size(); t++) {
                        if (q != p && now[p][t] && mays(p, q, h, false, EVERYBODY)) {
                            int gain = gain(next, ears(place, h, EVERYBODY), t, h);
                            if (gain > most) {
                                most = gain;
                                people = ears(place, h, EVERYBODY);
                                told = t;
                                price = 1;
                            }
                        }
                    }
                }
                for (Act a : v.acts) {
                    if (now[p][a.thing] && place >= 0 && gain(next, at(place, h, EVERYBODY), a.thing, h) > most) {
                        most = gain(next, at(place, h, EVERYBODY), a.thing, h);
                        people = at(place, h, EVERYBODY);
                        told = a.thing;
                        price = a.cost;
                    }
                }
                if (people != null) {
                    o.cost += price;
                    o.done++;
                    for (int q : people) {
                        next[q][told] = true;
                    }
                }
            }
            o.know[h + 1] = next;
        }
        return o;
    }

    private int gain(boolean[][] next, Set<Integer> people, int t, int h) {
        return v.musts.stream().filter(m -> m.thing == t && m.hour > h && people.contains(m.person) && !next[m.person][t])
                .mapToInt(m -> v.things.get(t)).sum();
    }

    int rule(int what) {
        Outcome o = byRule();
        return what == 0 ? harmOf(o.know) : what == 1 ? o.cost : what == 2 ? o.done : -1;
    }

    int ruled(int p, int h) {
        return person(p) && end(h) ? bits(byRule().know[h][p]) : -1;
    }

    // ---- days

    static int lot(int n, int seed, int which) {
        long h = seed & 0xffffffffL;
        for (long it : new long[] {17, which & 0xffffffffL}) {
            h = ((h ^ it) * 1103515245L + 12345L) & 0xffffffffL;
            h = h ^ h >> 15;
        }
        return (int) ((h >> 1) % n);
    }

    private int[] lives(int seed, int frail) {
        int[] alive = new int[24];
        int living = (1 << v.people.size()) - 1;
        for (int h = 0; h < 24; h++) {
            for (int p = 0; p < v.people.size() && h > 0; p++) {
                if (lot(100, seed, 100 * h + p) < frail) {
                    living &= ~(1 << p);
                }
            }
            alive[h] = living;
        }
        return alive;
    }

    private int gone(int[] alive, boolean[][][] k) {
        int b = 0;
        for (int t = 0; t < v.things.size(); t++) {
            boolean ever = false;
            boolean still = false;
            for (int p = 0; p < v.people.size(); p++) {
                for (int h = 0; h <= 24; h++) {
                    ever |= k[h][p][t];
                }
                still |= k[24][p][t] && (alive[23] & 1 << p) != 0;
            }
            b += ever && !still ? 1 << t : 0;
        }
        return b;
    }

    int day(int seed, int frail, int what) {
        if (frail < 0 || frail > 100 || what < 0 || what > 3) {
            return -1;
        }
        int[] alive = lives(seed, frail);
        Outcome o = run(alive);
        return switch (what) {
            case 0 -> alive[23];
            case 1 -> gone(alive, o.know);
            case 2 -> harmOf(o.know);
            default -> o.done;
        };
    }

    int kept(int seed, int k, int frail, int t) {
        if (k < 1 || k > 50 || frail < 0 || frail > 100 || !thing(t)) {
            return -1;
        }
        int n = 0;
        for (int i = 0; i < k; i++) {
            n += (day(seed + i, frail, 1) & 1 << t) == 0 ? 1 : 0;
        }
        return n;
    }

    int count(int what) {
        int full = 0;
        for (List<Doing> s : slots) {
            full += s == null ? 0 : 1;
        }
        int[] plain = {v.places, v.people.size(), v.things.size(), v.walls.size(), v.stays.size(), v.musts.size(),
            v.acts.size(), v.tasks.size(), v.say.size(), v.ask.size(), plan.size(), tape.length(), full};
        if (what >= 0 && what < plain.length) {
            return plain[what];
        }
        if (what >= 20 && what < 20 + v.things.size()) {
            return v.things.get(what - 20);
        }
        if (what >= 30 && what < 30 + v.tasks.size()) {
            return v.tasks.get(what - 30).size();
        }
        if (what >= 40 && what < 40 + v.acts.size()) {
            return v.acts.get(what - 40).cost;
        }
        return -1;
    }
}
