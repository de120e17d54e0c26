import java.util.function.Supplier;

/**
 * For each call what each of its arguments may be: one too small, just large enough, just small enough, one too
 * large; and that all stays as it was if the call is refused. In a small village, in a full one, in an empty one.
 */
final class EdgesOfArguments {
    private static final int NONE = Cases.NONE;
    static final String SMALL = "place mill; place inn; place farm; thin mill inn; person abe 70; person bea 40;"
            + "person cal 10 birth 12; person dot 40; thing gold 9; thing love 5; thing debt 9; at bea inn 0 7;"
            + "at bea farm 5 6; at dot farm 0 23; knows abe gold; knows cal love; knows dot debt;"
            + "must bea love 3; must abe love 1; must dot gold 9; act point gold 7; act sing love 3; task trip gold, love;";
    private static final String FULL = full();

    private final Cases cases;
    private final String village;
    private final Supplier<OnlyUpward> made;
    private final int places;
    private final int people;
    private final int things;
    private final int acts;
    private final int tasks;

    private EdgesOfArguments(Cases cases, String village, Supplier<OnlyUpward> made) {
        this.cases = cases;
        this.village = village;
        this.made = made;
        OnlyUpward x = made.get();
        places = x.count(0);
        people = x.count(1);
        things = x.count(2);
        acts = x.count(6);
        tasks = x.count(7);
    }

    static void look(Cases cases) {
        new EdgesOfArguments(cases, "a small village", EdgesOfArguments::lived).lookAtAll();
        new EdgesOfArguments(cases, "a full village", () -> livedIn(FULL)).lookAtAll();
        emptyVillage(cases);
        nobody(cases);
        onePerson(cases);
        neverAndNoSuchOne(cases);
    }

    private static String full() {
        StringBuilder s = new StringBuilder();
        for (int i = 0; i < 10; i++) {
            char n = (char) ('a' + i);
            s.append(i < 6 ? "place l" + n + ";thing t" + n + " 9;act c" + n + " t" + n + " 5;" : "");
            s.append("person p" + n + " " + (10 + i) + ";").append(i < 4 ? "task k" + n + " ta;" : "");
        }
        return s + "knows pa ta;knows pj tf;must pb ta 3;must pc ta 5;";
    }

    /** A village in which something is planned, held in two slots, and on the tape. */
    private static OnlyUpward livedIn(String text) {
        OnlyUpward x = Due.village(text);
        x.say(3, 0, 1, 0);
        x.hold(0);
        x.leave(4, 1, 1);
        x.ask(5, 0, 2, 0);
        x.hold(2);
        x.drop(1);
        x.show(6, 0, 0);
        Due.feed(x, "place z");
        return x;
    }

    static OnlyUpward lived() {
        return livedIn(SMALL);
    }

    private void lookAtAll() {
        wherePeopleAre();
        intoThePlan();
        ofThePlan();
        whatIsKnown();
        spreading();
        cheaply();
        whoHears();
        mustsAndTasks();
        ranks();
        ruleAndDays();
        slotsAndCounts();
    }

    private void range(int promise, String what, int low, int high, Cases.Call call) {
        cases.range("Promise " + promise + ": " + what + " in " + village, made, low, high, call);
    }

    private void refused(int promise, String what, Cases.Call call, int argument) {
        cases.refused("Promise " + promise + ": " + what + " in " + village, made, call, argument);
    }

    private void wherePeopleAre() {
        range(6, "age, PERSON", 0, people - 1, (x, a) -> x.age(a, 0));
        range(6, "age, HOUR", 0, 23, (x, a) -> x.age(0, a));
        range(7, "where, PERSON", 0, people - 1, (x, a) -> x.where(a, 0));
        range(7, "where, HOUR", 0, 23, (x, a) -> x.where(0, a));
        range(8, "earshot, PLACE", 0, places - 1, (x, a) -> x.earshot(a, 0));
        range(8, "earshot, HOUR", 0, 23, (x, a) -> x.earshot(0, a));
        range(9, "may, PERSON", 0, people - 2, (x, a) -> x.may(a, people - 1, 0, false));
        range(9, "may, the last PERSON", 1, people - 1, (x, a) -> x.may(a, 0, 0, false));
        range(9, "may, the other one", 1, people - 1, (x, a) -> x.may(0, a, 0, false));
        range(9, "may, the other one of the last", 0, people - 2, (x, a) -> x.may(people - 1, a, 0, true));
        range(9, "may, HOUR", 0, 23, (x, a) -> x.may(0, 1, a, false));
        range(9, "may ask, HOUR", 0, 23, (x, a) -> x.may(0, 1, a, true));
        for (int person = 0; person < people; person += people - 1) {
            refused(9, "may, one and the same " + person, (x, a) -> x.may(a, a, 0, false), person);
            refused(9, "may ask, one and the same " + person, (x, a) -> x.may(a, a, 0, true), person);
        }
    }

    private void intoThePlan() {
        range(10, "say, HOUR", 0, 23, (x, a) -> x.say(a, 0, 1, 0));
        range(10, "say, PERSON", 1, people - 1, (x, a) -> x.say(0, a, 0, 0));
        range(10, "say, the other one", 1, people - 1, (x, a) -> x.say(0, 0, a, 0));
        range(10, "say, the other one of the last", 0, people - 2, (x, a) -> x.say(0, people - 1, a, 0));
        range(10, "say, THING", 0, things - 1, (x, a) -> x.say(0, 0, 1, a));
        range(11, "show, HOUR", 0, 23, (x, a) -> x.show(a, 0, 0));
        range(11, "show, PERSON", 0, people - 1, (x, a) -> x.show(0, a, 0));
        range(11, "show, ACT", 0, acts - 1, (x, a) -> x.show(0, 0, a));
        range(12, "leave, HOUR", 0, 23, (x, a) -> x.leave(a, 0, 0));
        range(12, "leave, PERSON", 0, people - 1, (x, a) -> x.leave(0, a, 0));
        range(12, "leave, THING", 0, things - 1, (x, a) -> x.leave(0, 0, a));
        range(13, "ask, HOUR", 0, 23, (x, a) -> x.ask(a, 0, 1, 0));
        range(13, "ask, PERSON", 1, people - 1, (x, a) -> x.ask(0, a, 0, 0));
        range(13, "ask, the other one", 1, people - 1, (x, a) -> x.ask(0, 0, a, 0));
        range(13, "ask, the other one of the last", 0, people - 2, (x, a) -> x.ask(0, people - 1, a, 0));
        range(13, "ask, THING", 0, things - 1, (x, a) -> x.ask(0, 0, 1, a));
        for (int person = 0; person < people; person += people - 1) {
            refused(10, "say, one and the same " + person, (x, a) -> x.say(0, a, a, 0), person);
            refused(13, "ask, one and the same " + person, (x, a) -> x.ask(0, a, a, 0), person);
        }
    }

    private void ofThePlan() {
        range(14, "drop, DOING", 0, 2, OnlyUpward::drop);
        range(15, "doing, DOING", 0, 2, (x, a) -> x.doing(a, 0));
        range(15, "doing, why of a DOING", 0, 2, (x, a) -> x.doing(a, 5));
        range(15, "doing, what", 0, 5, (x, a) -> x.doing(0, a));
    }

    private void whatIsKnown() {
        range(18, "knows, PERSON", 0, people - 1, (x, a) -> x.knows(a, 24));
        range(18, "knows, HOUR", 0, 24, (x, a) -> x.knows(0, a));
        range(19, "when, PERSON", 0, people - 1, (x, a) -> x.when(a, 0));
        range(19, "when, THING", 0, things - 1, (x, a) -> x.when(0, a));
        range(20, "seen, PERSON", 1, people - 1, (x, a) -> x.seen(a, 0, 24));
        range(20, "seen, the other one", 1, people - 1, (x, a) -> x.seen(0, a, 24));
        range(20, "seen, the other one of the last", 0, people - 2, (x, a) -> x.seen(people - 1, a, 24));
        range(20, "seen, HOUR", 0, 24, (x, a) -> x.seen(0, 1, a));
        refused(20, "seen, one and the same", (x, a) -> x.seen(a, a, 24), 0);
        refused(20, "seen, the last and himself", (x, a) -> x.seen(a, a, 24), people - 1);
        range(29, "lost, PERSON", 0, people - 1, (x, a) -> x.lost(a, 0));
        range(29, "lost, HOUR", 0, 24, (x, a) -> x.lost(0, a));
        range(30, "before, PERSON", 0, people - 1, (x, a) -> x.before(a, 0));
        range(30, "before, HOUR", 0, 24, (x, a) -> x.before(0, a));
    }

    private void spreading() {
        int everybody = (1 << people) - 1;
        range(21, "soon, PERSON", 0, people - 1, (x, a) -> x.soon(a, 0, 1, 0, 0, false));
        range(21, "soon, THING", 0, things - 1, (x, a) -> x.soon(0, a, 1, 0, 0, false));
        range(21, "soon, KNOWERS", 0, everybody, (x, a) -> x.soon(0, 0, a, 0, 0, false));
        range(21, "soon, h0", 0, 23, (x, a) -> x.soon(0, 0, 1, a, 0, false));
        range(21, "soon, LAW", 0, 3, (x, a) -> x.soon(1, 0, 1, 0, a, false));
        range(21, "soon aloud, LAW", 0, 3, (x, a) -> x.soon(1, 0, 1, 0, a, true));
        refused(21, "soon, KNOWERS: all and one more", (x, a) -> x.soon(0, 0, a, 0, 0, false), 2 * everybody + 1);
        range(22, "all, THING", 0, things - 1, (x, a) -> x.all(a, 1, 0, 0, false));
        range(22, "all, KNOWERS", 0, everybody, (x, a) -> x.all(0, a, 0, 0, false));
        range(22, "all, h0", 0, 23, (x, a) -> x.all(0, 1, a, 0, false));
        range(22, "all, LAW", 0, 3, (x, a) -> x.all(0, 1, 0, a, false));
        refused(22, "all, KNOWERS: all and one more", (x, a) -> x.all(0, a, 0, 0, true), 2 * everybody + 1);
    }

    private void cheaply() {
        int everybody = (1 << people) - 1;
        range(23, "cheap, PERSON", 0, people - 1, (x, a) -> x.cheap(a, 0, 1, 0, 0));
        range(23, "cheap, THING", 0, things - 1, (x, a) -> x.cheap(1, a, 1, 0, 0));
        range(23, "cheap, KNOWERS", 0, everybody, (x, a) -> x.cheap(1, 0, a, 0, 0));
        range(23, "cheap, h0", 0, 23, (x, a) -> x.cheap(1, 0, 1, a, 0));
        range(23, "cheap, what", 0, 1, (x, a) -> x.cheap(1, 0, 1, 0, a));
        range(24, "cheapAt, PERSON", 0, people - 1, (x, a) -> x.cheapAt(a, 0, a == 0 ? 4 : 1, 0, 0));
        range(24, "cheapAt, THING", 0, things - 1, (x, a) -> x.cheapAt(0, a, 4, 0, 0));
        refused(24, "cheapAt, KNOWERS one too large", (x, a) -> x.cheapAt(1, 0, a, 0, 0), everybody + 1);
        refused(24, "cheapAt, KNOWERS one too large and PERSON 0", (x, a) -> x.cheapAt(1, 0, a, 0, 0), everybody + 2);
        refused(24, "cheapAt, KNOWERS below 0", (x, a) -> x.cheapAt(1, 0, a, 0, 0), -3);
        range(24, "cheapAt, h0", 0, 23, (x, a) -> x.cheapAt(1, 0, 1, a, 0));
        range(24, "cheapAt, i of one DOING", 0, 0, (x, a) -> x.cheapAt(1, 0, 1, 0, a));
        refused(24, "cheapAt, who knows it needs no DOING", (x, a) -> x.cheapAt(0, 0, 1, 0, a), 0);
        refused(24, "cheapAt, it can't be", (x, a) -> x.cheapAt(1, 0, a, 0, 0), 0);
    }

    private void whoHears() {
        int everybody = (1 << people) - 1;
        range(25, "secret, PERSON", 0, people - 1, (x, a) -> x.secret(a, 0));
        range(25, "secret, HOUR", 0, 23, (x, a) -> x.secret(0, a));
        range(26, "below, PERSON", 0, people - 1, (x, a) -> x.below(a, 0));
        range(26, "below, HOUR", 0, 23, (x, a) -> x.below(0, a));
        range(27, "stand, PLACE", 0, places - 1, (x, a) -> x.stand(a, 0, 1));
        range(27, "stand, HOUR", 0, 23, (x, a) -> x.stand(0, a, 1));
        range(27, "stand, set", 0, everybody, (x, a) -> x.stand(0, 0, a));
        refused(27, "stand, set: all and one more", (x, a) -> x.stand(0, 0, a), 2 * everybody + 1);
        range(28, "best, PERSON", 0, people - 1, (x, a) -> x.best(a, 0, 1));
        range(28, "best, h0", 0, 23, (x, a) -> x.best(0, a, 1));
        range(28, "best, set", 0, everybody, (x, a) -> x.best(0, 0, a));
        refused(28, "best, set: all and one more", (x, a) -> x.best(0, 0, a), 2 * everybody + 1);
    }

    private void mustsAndTasks() {
        int missed = made.get().missed(NONE);
        for (int i = 0; i < missed; i++) {
            cases.is("Promise 31: missed, just enough, i " + i + " in " + village, made.get().missed(i) >= 0, true);
        }
        refused(31, "missed, not so many", (x, a) -> x.missed(a), missed);
        refused(31, "missed, below NONE", (x, a) -> x.missed(a), -2);
        refused(31, "missed, the greatest int", (x, a) -> x.missed(a), Integer.MAX_VALUE);
        refused(31, "missed, the least int", (x, a) -> x.missed(a), Integer.MIN_VALUE);
        range(33, "can, what", 0, 1, OnlyUpward::can);
        range(34, "task, TASK", 0, tasks - 1, (x, a) -> x.task(a, 0));
        range(34, "task, PERSON", 0, people - 1, (x, a) -> x.task(0, a));
    }

    private void ranks() {
        range(35, "rank, HOUR", 0, 24, (x, a) -> x.rank(a, 0));
        range(35, "rank, i", 0, people - 1, (x, a) -> x.rank(0, a));
        range(36, "share, HOUR", 0, 24, (x, a) -> x.share(a, 1, 0));
        range(36, "share, HOUR of all", 0, 24, (x, a) -> x.share(a, 1, 1));
        range(36, "share, k", 0, 10, (x, a) -> x.share(24, a, 0));
        range(36, "share, what", 0, 1, (x, a) -> x.share(24, 1, a));
    }

    private void ruleAndDays() {
        range(37, "rule, what", 0, 2, OnlyUpward::rule);
        range(38, "ruled, PERSON", 0, people - 1, (x, a) -> x.ruled(a, 24));
        range(38, "ruled, HOUR", 0, 24, (x, a) -> x.ruled(0, a));
        range(39, "day, FRAIL", 0, 100, (x, a) -> x.day(1, a, 0));
        range(39, "day, what", 0, 3, (x, a) -> x.day(1, 50, a));
        range(40, "kept, k", 1, 50, (x, a) -> x.kept(1, a, 50, 0));
        range(40, "kept, FRAIL", 0, 100, (x, a) -> x.kept(1, 3, a, 0));
        range(40, "kept, THING", 0, things - 1, (x, a) -> x.kept(1, 3, 50, a));
    }

    private void slotsAndCounts() {
        range(41, "hold, SLOT", 0, 2, (x, a) -> x.hold(a) ? 1 : NONE);
        range(42, "restore, SLOT 0 alone of", 0, 0, (x, a) -> x.restore(a) ? 1 : NONE);
        range(42, "restore, SLOT 2 alone of", 2, 2, (x, a) -> x.restore(a) ? 1 : NONE);
        range(43, "count, what", 0, 12, OnlyUpward::count);
        range(43, "count, a WORTH", 20, 19 + things, OnlyUpward::count);
        range(43, "count, how many a TASK needs", 30, 29 + tasks, OnlyUpward::count);
        range(43, "count, a COST", 40, 39 + acts, OnlyUpward::count);
    }

    /** Without anybody and anything there are no such ones. */
    private static void emptyVillage(Cases cases) {
        none(cases, "Promise 6: age", (x, a) -> x.age(a, a));
        none(cases, "Promise 7: where", (x, a) -> x.where(a, a));
        none(cases, "Promise 8: earshot", (x, a) -> x.earshot(a, a));
        none(cases, "Promise 9: may", (x, a) -> x.may(a, 1, a, false));
        none(cases, "Promise 9: may ask", (x, a) -> x.may(a, 1, a, true));
        none(cases, "Promise 10: say", (x, a) -> x.say(a, a, 1, a));
        none(cases, "Promise 11: show", (x, a) -> x.show(a, a, a));
        none(cases, "Promise 12: leave", (x, a) -> x.leave(a, a, a));
        none(cases, "Promise 13: ask", (x, a) -> x.ask(a, a, 1, a));
        none(cases, "Promise 14: drop", OnlyUpward::drop);
        none(cases, "Promise 15: doing", (x, a) -> x.doing(a, a));
        none(cases, "Promise 18: knows", (x, a) -> x.knows(a, a));
        none(cases, "Promise 19: when", (x, a) -> x.when(a, a));
        none(cases, "Promise 20: seen", (x, a) -> x.seen(a, 1, a));
        none(cases, "Promise 21: soon", (x, a) -> x.soon(a, a, a, a, a, false));
        none(cases, "Promise 22: all", (x, a) -> x.all(a, a, a, a, false));
        none(cases, "Promise 23: cheap", (x, a) -> x.cheap(a, a, a, a, a));
        none(cases, "Promise 24: cheapAt", (x, a) -> x.cheapAt(a, a, a, a, a));
        none(cases, "Promise 25: secret", (x, a) -> x.secret(a, a));
        none(cases, "Promise 26: below", (x, a) -> x.below(a, a));
        none(cases, "Promise 27: stand", (x, a) -> x.stand(a, a, a));
        none(cases, "Promise 28: best", (x, a) -> x.best(a, a, a));
        none(cases, "Promise 29: lost", (x, a) -> x.lost(a, a));
        none(cases, "Promise 30: before", (x, a) -> x.before(a, a));
        none(cases, "Promise 31: missed", OnlyUpward::missed);
        none(cases, "Promise 34: task", (x, a) -> x.task(a, a));
        none(cases, "Promise 35: rank", (x, a) -> x.rank(a, a));
        none(cases, "Promise 38: ruled", (x, a) -> x.ruled(a, a));
        none(cases, "Promise 40: kept", (x, a) -> x.kept(a, 1, a, a));
        none(cases, "Promise 42: restore", (x, a) -> x.restore(a) ? 1 : NONE);
        none(cases, "Promise 43: count, a WORTH", (x, a) -> x.count(20 + a));
        none(cases, "Promise 43: count, of a TASK", (x, a) -> x.count(30 + a));
        none(cases, "Promise 43: count, a COST", (x, a) -> x.count(40 + a));
    }

    private static void none(Cases cases, String call, Cases.Call of) {
        cases.refused(call + ", number 0 of an empty village", OnlyUpward::new, of, 0);
    }

    /** Places, things, acts, tasks, but nobody. */
    private static void nobody(Cases cases) {
        OnlyUpward x = Due.village("place l; thing t 3; act s t 2; task k t;");
        cases.are("Promise 8: earshot, a PLACE, but nobody", x.earshot(0, 0) + " " + x.earshot(1, 0), "0 -1");
        cases.are("Promise 11: show, an ACT, but nobody", x.show(0, 0, 0) + " " + x.count(10), "-1 0");
        cases.are("Promise 22: all, a THING, but nobody", x.all(0, 0, 7, 0, false) + " " + x.all(0, 1, 7, 0, false), "7 -1");
        cases.are("Promise 27: stand, a PLACE, but nobody", x.stand(0, 0, 0) + " " + x.stand(0, 0, 1), "0 -1");
        cases.are("Promise 34: task, a TASK, but nobody", "" + x.task(0, 0), "-1");
        cases.are("Promise 40: kept, a THING, but nobody", x.kept(0, 50, 100, 0) + " " + x.kept(0, 1, 0, 1), "50 -1");
    }

    /** One alone has no other one. */
    private static void onePerson(Cases cases) {
        OnlyUpward x = Due.village("place l; person a 9; thing t 3; act s t 2; knows a t;");
        cases.are("Promise 9: may, one alone", x.may(0, 0, 0, false) + " " + x.may(0, 1, 0, true) + " " + x.may(1, 0, 0, true), "-1 -1 -1");
        cases.are("Promise 10: say, one alone", x.say(0, 0, 0, 0) + " " + x.say(0, 0, 1, 0) + " " + x.ask(0, 0, 1, 0), "-1 -1 -1");
        cases.are("Promise 11: show, one alone", x.show(0, 0, 0) + " " + x.doing(0, 5), "0 0");
        cases.are("Promise 25: secret, one alone", x.secret(0, 0) + " " + x.below(0, 0) + " " + x.best(0, 0, 0), "-2 0 -2");
        cases.are("Promise 22: all, one alone", x.all(0, 1, 5, 0, true) + " " + x.all(0, 0, 5, 0, true), "5 -2");
        cases.are("Promise 35: rank, one alone", x.rank(0, 0) + " " + x.rank(0, 1), "0 -1");
    }

    /** NONE comes ahead of -2. */
    private static void neverAndNoSuchOne(Cases cases) {
        OnlyUpward x = Due.village("person a 5; person b 4; thing t 3; task k t;");
        both(cases, "Promise 7: where", x.where(1, 0), x.where(2, 0), x.where(1, 24));
        both(cases, "Promise 19: when", x.when(1, 0), x.when(2, 0), x.when(1, 1));
        both(cases, "Promise 21: soon", x.soon(1, 0, 0, 0, 0, false), x.soon(2, 0, 0, 0, 0, false), x.soon(1, 0, 4, 0, 0, false));
        both(cases, "Promise 22: all", x.all(0, 0, 0, 0, false), x.all(1, 0, 0, 0, false), x.all(0, 4, 0, 0, false));
        both(cases, "Promise 23: cheap", x.cheap(1, 0, 0, 0, 0), x.cheap(2, 0, 0, 0, 0), x.cheap(1, 0, 0, 0, 2));
        both(cases, "Promise 25: secret", x.secret(1, 0), x.secret(2, 0), x.secret(1, 24));
        both(cases, "Promise 28: best", x.best(1, 0, 0), x.best(2, 0, 0), x.best(1, 0, 4));
        both(cases, "Promise 30: before", x.before(1, 24), x.before(2, 24), x.before(1, 25));
        both(cases, "Promise 34: task", x.task(0, 1), x.task(0, 2), x.task(1, 1));
        cases.is("Promise 24: cheapAt, it can't be: NONE, not -2", x.cheapAt(1, 0, 0, 0, 0), NONE);
    }

    private static void both(Cases cases, String call, int never, int none, int noneToo) {
        cases.are(call + ", -2, and NONE ahead of it", never + " " + none + " " + noneToo, "-2 -1 -1");
    }
}
