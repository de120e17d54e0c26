import java.util.ArrayList;
import java.util.List;
import java.util.Random;

/** Random villages, random (also faulty) texts and random calls: OnlyUpward against the Oracle. The seeds are fixed. */
public final class OracleTest {
    private static final Due DUE = new Due();

    public static void main(String[] args) {
        int runs = args.length > 0 ? Integer.parseInt(args[0]) : 300;
        for (int run = 0; run < runs; run++) {
            village(new Random(run), run);
        }
        for (int run = 0; run < 10 * runs; run++) {
            faults(new Random(7000000 + run), run);
        }
        DUE.end("OracleTest");
    }

    // ---- texts

    static String[] names(String kind, int n) {
        String[] names = new String[n];
        for (int i = 0; i < n; i++) {
            names[i] = kind + (char) ('a' + i);
        }
        return names;
    }

    private static String any(Random r, String[] some) {
        return some[r.nextInt(some.length)];
    }

    static String unit(Random r, int depth) {
        switch (r.nextInt(depth > 0 ? 7 : 6)) {
            case 0:
                return "mine";
            case 1:
                return "yours";
            case 2:
                return "hour";
            case 3:
                return "crowd";
            case 4:
                return "" + r.nextInt(40);
            case 5:
                return r.nextInt(4) == 0 ? "9999*9999*9999" : "" + r.nextInt(4);
            default:
                return "(" + sum(r, depth - 1) + ")";
        }
    }

    static String sum(Random r, int depth) {
        StringBuilder s = new StringBuilder(unit(r, depth));
        int n = r.nextInt(3);
        for (int i = 0; i < n; i++) {
            s.append("+-*/".charAt(r.nextInt(4))).append(unit(r, depth));
        }
        return s.toString();
    }

    static String condition(Random r) {
        StringBuilder s = new StringBuilder();
        int n = 1 + r.nextInt(3);
        for (int i = 0; i < n; i++) {
            s.append(i == 0 ? "" : r.nextBoolean() ? " or " : " and ");
            s.append(r.nextInt(4) == 0 ? "not " : "").append(r.nextInt(8) == 0 ? "not not " : "");
            s.append(sum(r, 2)).append(new String[] {"==", "!=", "<", "<="}[r.nextInt(4)]).append(sum(r, 2));
        }
        return s.toString();
    }

    static List<String> tells(Random r) {
        List<String> t = new ArrayList<>();
        String[] places = names("l", r.nextInt(12) == 0 ? 0 : 1 + r.nextInt(r.nextBoolean() ? 3 : 6));
        String[] people = names("p", 2 + r.nextInt(r.nextInt(3) == 0 ? 9 : 5));
        String[] things = names("t", 1 + r.nextInt(6));
        for (String l : places) {
            t.add("place " + l + ";");
        }
        int ages = 1 + r.nextInt(99);
        for (String p : people) {
            t.add("person " + p + " " + r.nextInt(ages) + (r.nextInt(3) == 0 ? " birth " + r.nextInt(24) : "") + ";");
        }
        for (String one : things) {
            t.add("thing " + one + " " + r.nextInt(r.nextBoolean() ? 100 : 4) + ";");
        }
        for (int i = r.nextInt(9); i > 0 && places.length > 1; i--) {
            String a = any(r, places);
            String b = any(r, places);
            if (!a.equals(b)) {
                t.add("thin " + a + " " + b + ";");
            }
        }
        for (int i = r.nextInt(21); i > 0 && places.length > 0; i--) {
            int from = r.nextInt(24);
            t.add("at " + any(r, people) + " " + any(r, places) + " " + from + " " + (from + r.nextInt(24 - from)) + ";");
        }
        for (int i = r.nextInt(13); i > 0; i--) {
            t.add("knows " + any(r, people) + " " + any(r, things) + ";");
        }
        for (int i = r.nextInt(13); i > 0; i--) {
            t.add("must " + any(r, people) + " " + any(r, things) + " " + r.nextInt(24) + ";");
        }
        for (int i = r.nextInt(7); i > 0; i--) {
            t.add("act a" + (char) ('a' + i) + " " + any(r, things) + " " + (1 + r.nextInt(r.nextBoolean() ? 4 : 99)) + ";");
        }
        for (int i = r.nextInt(4); i > 0; i--) {
            StringBuilder s = new StringBuilder("task k" + (char) ('a' + i) + " ");
            int from = r.nextInt(things.length);
            int to = from + 1 + r.nextInt(things.length - from);
            for (int j = from; j < to; j++) {
                s.append(j == from ? "" : ",").append(things[j]);
            }
            t.add(s + ";");
        }
        for (int i = r.nextInt(3); i > 0; i--) {
            t.add("say if " + condition(r) + ";");
        }
        for (int i = r.nextInt(3); i > 0; i--) {
            t.add("ask if " + condition(r) + ";");
        }
        return t;
    }

    static String text(Random r) {
        String text = String.join(r.nextBoolean() ? "" : " ", tells(r));
        return text.length() > 2000 ? text.substring(0, text.lastIndexOf(';', 1990) + 1) : text;
    }

    private static String spoilt(Random r, String text) {
        String[] bits = {"place", "person", "birth", "thing", "thin", "at", "knows", "must", "act", "task", "say", "ask",
            "if", "or", "and", "not", "mine", "yours", "hour", "crowd", ";", ",", "+", "-", "*", "/", "==", "!=", "<", "<=",
            "(", ")", "=", "!", " ", "\n", "\t", "\r", "0", "24", "100", "12345", "a", "abcdefgh", "abcdefghi", "pa", "ta",
            "la", "A", "\u00e9", "\u0000", "place pa;", "thing la 3;", "say if 1==1;", "task zz ta,ta;", "((((((", "))))))",
            "thin la la;", "at pa la 5 4;", "at pa la 24 4;", "act zz ta 0;", "act zz pa 4;", "must pa ta 24;", "1 == 1"};
        String s = text;
        for (int i = 1 + r.nextInt(3); i > 0; i--) {
            int a = r.nextInt(s.length() + 1);
            int b = Math.min(s.length(), a + (r.nextBoolean() ? 0 : r.nextInt(7)));
            String bit = r.nextInt(3) == 0 ? "" : bits[r.nextInt(bits.length)];
            s = s.substring(0, a) + bit + s.substring(b);
        }
        if (r.nextInt(8) == 0) {
            s = s.substring(0, r.nextInt(s.length() + 1));
        }
        if (r.nextInt(8) == 0) {
            int a = r.nextInt(s.length() + 1);
            s = s + s.substring(a);
        }
        return s.length() > 2000 ? s.substring(0, 2000) : s;
    }

    private static void both(OnlyUpward x, Oracle o, String text, String what) {
        for (int from = 0; from < text.length(); from += 20) {
            int[] f = Due.five(text, from);
            DUE.is(what + " feed", x.feed(f[0], f[1], f[2], f[3], f[4]), o.feed(f[0], f[1], f[2], f[3], f[4]));
        }
        int n = (20 - text.length() % 20) % 20;
        DUE.is(what + " back", x.back(n), o.back(n));
        DUE.is(what + " read of " + text, x.read(), o.read());
        DUE.is(what + " place of " + text, x.place(), o.place());
    }

    private static void faults(Random r, int run) {
        OnlyUpward x = new OnlyUpward();
        Oracle o = new Oracle();
        for (int i = 0; i < 4; i++) {
            String text = text(r);
            both(x, o, r.nextInt(8) == 0 ? text : spoilt(r, text), "faults " + run);
            for (int what = 0; what < 50; what++) {
                DUE.is("faults " + run + " count " + what, x.count(what), o.count(what));
            }
        }
    }

    // ---- calls

    private static void village(Random r, int run) {
        OnlyUpward x = new OnlyUpward();
        Oracle o = new Oracle();
        for (int texts = 0; texts < 4; texts++) {
            both(x, o, text(r), "run " + run);
            for (int i = 0; i < 100; i++) {
                if (r.nextInt(4) == 0) {
                    change(r, run, x, o);
                } else if (r.nextBoolean()) {
                    look(r, run, x, o);
                } else {
                    reckon(r, run, x, o);
                }
            }
        }
    }

    private static int upTo(Random r, int n) {
        return r.nextInt(25) == 0 ? r.nextInt(3) - 2 + (r.nextBoolean() ? n + 2 : 0) : n <= 0 ? 0 : r.nextInt(n);
    }

    private static void change(Random r, int run, OnlyUpward x, Oracle o) {
        int people = o.count(1);
        int h = upTo(r, r.nextBoolean() ? 24 : 8);
        int p = upTo(r, people);
        int q = upTo(r, people);
        int t = upTo(r, o.count(2));
        String w = "run " + run + " ";
        switch (r.nextInt(12)) {
            case 0, 1, 2, 3 -> DUE.is(w + "say", x.say(h, p, q, t), o.say(h, p, q, t));
            case 4 -> {
                int a = upTo(r, o.count(6));
                DUE.is(w + "show", x.show(h, p, a), o.show(h, p, a));
            }
            case 5 -> DUE.is(w + "leave", x.leave(h, p, t), o.leave(h, p, t));
            case 6, 7, 8 -> DUE.is(w + "ask", x.ask(h, p, q, t), o.ask(h, p, q, t));
            case 9 -> {
                int d = upTo(r, o.count(10));
                DUE.is(w + "drop", x.drop(d), o.drop(d));
            }
            case 10 -> {
                int s = upTo(r, 3);
                DUE.is(w + "hold", x.hold(s), o.hold(s));
            }
            default -> {
                int s = upTo(r, 3);
                DUE.is(w + "restore", x.restore(s), o.restore(s));
            }
        }
    }

    private static void look(Random r, int run, OnlyUpward x, Oracle o) {
        int people = o.count(1);
        int h = upTo(r, 24);
        int e = upTo(r, 25);
        int p = upTo(r, people);
        int q = upTo(r, people);
        int t = upTo(r, o.count(2));
        int l = upTo(r, o.count(0));
        int s = upTo(r, 1 << people);
        String w = "run " + run + " ";
        switch (r.nextInt(17)) {
            case 0 -> DUE.is(w + "age", x.age(p, h), o.age(p, h));
            case 1 -> DUE.is(w + "where", x.where(p, h), o.where(p, h));
            case 2 -> DUE.is(w + "earshot", x.earshot(l, h), o.earshot(l, h));
            case 3, 4 -> {
                boolean asking = r.nextBoolean();
                DUE.is(w + "may " + p + " " + q + " " + h + " " + asking, x.may(p, q, h, asking), o.may(p, q, h, asking));
            }
            case 5, 6 -> {
                int d = upTo(r, o.count(10));
                int what = upTo(r, 6);
                DUE.is(w + "doing " + d + " " + what, x.doing(d, what), o.doing(d, what));
            }
            case 7 -> DUE.is(w + "judge", x.judge(), o.judge());
            case 8 -> DUE.is(w + "cost", x.cost(), o.cost());
            case 9 -> DUE.is(w + "knows", x.knows(p, e), o.knows(p, e));
            case 10 -> DUE.is(w + "when", x.when(p, t), o.when(p, t));
            case 11 -> DUE.is(w + "seen", x.seen(p, q, e), o.seen(p, q, e));
            case 12 -> DUE.is(w + "secret", x.secret(p, h), o.secret(p, h));
            case 13 -> DUE.is(w + "below", x.below(p, h), o.below(p, h));
            case 14 -> DUE.is(w + "stand", x.stand(l, h, s), o.stand(l, h, s));
            case 15 -> {
                int few = s & r.nextInt(1024);
                DUE.is(w + "best", x.best(p, h, few), o.best(p, h, few));
            }
            default -> {
                int what = r.nextInt(55) - 3;
                DUE.is(w + "count " + what, x.count(what), o.count(what));
            }
        }
    }

    private static void reckon(Random r, int run, OnlyUpward x, Oracle o) {
        int people = o.count(1);
        int h = upTo(r, r.nextBoolean() ? 24 : 6);
        int e = upTo(r, 25);
        int p = upTo(r, people);
        int t = upTo(r, o.count(2));
        int s = r.nextInt(25) == 0 ? upTo(r, 1 << people) : 1 << r.nextInt(Math.max(1, people)) | 1 << r.nextInt(Math.max(1, people));
        int what = upTo(r, 2);
        int i = upTo(r, people);
        int seed = r.nextInt();
        int frail = upTo(r, r.nextBoolean() ? 101 : 6);
        boolean aloud = r.nextBoolean();
        String w = "run " + run + " ";
        String pts = p + " " + t + " " + s + " " + h + " ";
        switch (r.nextInt(17)) {
            case 0 -> {
                int law = upTo(r, 4);
                DUE.is(w + "soon " + pts + law, x.soon(p, t, s, h, law, aloud), o.soon(p, t, s, h, law, aloud));
            }
            case 1 -> {
                int law = upTo(r, 4);
                DUE.is(w + "all " + pts + law, x.all(t, s, h, law, aloud), o.all(t, s, h, law, aloud));
            }
            case 2 -> DUE.is(w + "cheap " + pts + what, x.cheap(p, t, s, h, what), o.cheap(p, t, s, h, what));
            case 3, 4 -> {
                for (int n = -1; n < 4; n++) {
                    DUE.is(w + "cheapAt " + pts + n, x.cheapAt(p, t, s, h, n), o.cheapAt(p, t, s, h, n));
                }
            }
            case 5 -> DUE.is(w + "lost", x.lost(p, e), o.lost(p, e));
            case 6 -> DUE.is(w + "before", x.before(p, e), o.before(p, e));
            case 7 -> {
                int n = r.nextInt(8) - 2;
                DUE.is(w + "missed " + n, x.missed(n), o.missed(n));
            }
            case 8 -> DUE.is(w + "harm", x.harm(), o.harm());
            case 9 -> DUE.is(w + "can " + what, x.can(what), o.can(what));
            case 10 -> {
                int k = upTo(r, o.count(7));
                DUE.is(w + "task " + k, x.task(k, p), o.task(k, p));
            }
            case 11 -> DUE.is(w + "rank " + e + " " + i, x.rank(e, i), o.rank(e, i));
            case 12 -> {
                int k = upTo(r, 11);
                DUE.is(w + "share " + e + " " + k, x.share(e, k, what), o.share(e, k, what));
            }
            case 13 -> {
                int which = upTo(r, 3);
                DUE.is(w + "rule " + which, x.rule(which), o.rule(which));
            }
            case 14 -> DUE.is(w + "ruled", x.ruled(p, e), o.ruled(p, e));
            case 15 -> {
                int which = upTo(r, 4);
                DUE.is(w + "day " + seed + " " + frail + " " + which, x.day(seed, frail, which), o.day(seed, frail, which));
            }
            default -> {
                int k = r.nextInt(12) == 0 ? upTo(r, 51) : 1 + r.nextInt(4);
                DUE.is(w + "kept " + k + " " + frail, x.kept(seed, k, frail, t), o.kept(seed, k, frail, t));
            }
        }
    }
}
