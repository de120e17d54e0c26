/** THE PLAN and what is known by it: the second half of Term II, promises 10 to 20, 41 to 43. */
final class EdgesOfPlans {
    private static final int NONE = Cases.NONE;
    /** a, b and c are in the mill, d in the inn behind a thin wall, e in the farm; a may say to all, e to nobody. */
    private static final String FIVE = "place mill; place inn; place farm; thin mill inn; person a 5; person b 6; person c 7;"
            + "person d 8; person e 9; thing t 4; thing u 2; at d inn 0 23; at e farm 0 23; knows a t; knows b u; knows e t;"
            + "act s t 7; act r u 99;";
    private static final int A = 0;
    private static final int B = 1;
    private static final int C = 2;
    private static final int D = 3;
    private static final int E = 4;
    private static final int T = 0;
    private static final int U = 1;

    private final Cases cases;

    private EdgesOfPlans(Cases cases) {
        this.cases = cases;
    }

    static void look(Cases cases) {
        EdgesOfPlans edges = new EdgesOfPlans(cases);
        edges.fullPlan();
        edges.numbers();
        edges.drops();
        edges.partsOfDoings();
        edges.judged();
        edges.costs();
        edges.reasonOne();
        edges.firstReason();
        edges.reasonsOfEach();
        edges.byWhatIsKnown();
        edges.earshotOfSaying();
        edges.lastHour();
        edges.writings();
        edges.askedAndAnswered();
        edges.seen();
        edges.when();
        edges.slots();
        edges.slotsAndFullPlans();
        edges.slotsAndTexts();
        edges.counts();
        edges.countsWhenFull();
    }

    private static OnlyUpward five() {
        return Due.village(FIVE);
    }

    private static OnlyUpward filled(int doings) {
        OnlyUpward x = five();
        for (int i = 0; i < doings; i++) {
            x.leave(i % 24, i < 24 ? A : B, i < 24 ? T : U);
        }
        return x;
    }

    // ---- promises 10 to 14

    private void fullPlan() {
        cases.is("Promise 10: say, the first one", five().say(0, A, B, T), 0);
        cases.is("Promise 11: show, the first one", five().show(0, A, 0), 0);
        cases.is("Promise 12: leave, the first one", five().leave(0, A, T), 0);
        cases.is("Promise 13: ask, the first one", five().ask(0, A, B, T), 0);
        cases.is("Promise 10: say, the 30th, just full", filled(29).say(0, A, B, T), 29);
        cases.is("Promise 11: show, the 30th, just full", filled(29).show(0, A, 0), 29);
        cases.is("Promise 12: leave, the 30th, just full", filled(29).leave(0, A, T), 29);
        cases.is("Promise 13: ask, the 30th, just full", filled(29).ask(0, A, B, T), 29);
        refusedByFullPlan("Promise 10: say", (x, a) -> x.say(a, A, B, T));
        refusedByFullPlan("Promise 11: show", (x, a) -> x.show(a, A, 0));
        refusedByFullPlan("Promise 12: leave", (x, a) -> x.leave(a, A, T));
        refusedByFullPlan("Promise 13: ask", (x, a) -> x.ask(a, A, B, T));
    }

    private void refusedByFullPlan(String name, Cases.Call call) {
        cases.refused(name + ", the 31st, one more than full", () -> filled(30), call, 23);
    }

    private void numbers() {
        OnlyUpward x = filled(30);
        x.drop(29);
        cases.is("Promise 10: say, one of 30 is dropped, then it fits", x.say(0, A, B, T), 29);
        OnlyUpward y = filled(30);
        y.drop(0);
        cases.is("Promise 12: leave, the first of 30 is dropped, then it fits behind", y.leave(7, A, T), 29);
        cases.is("Promise 12: leave, it stands behind those that moved up", y.doing(29, 1), 7);
        OnlyUpward z = five();
        z.say(24, A, B, T);
        z.show(0, A, 2);
        cases.is("Promise 10: say, those that are refused take no number", z.say(0, A, B, T), 0);
    }

    private void drops() {
        OnlyUpward x = filled(30);
        cases.is("Promise 14: drop, the first of 30", x.drop(0), 29);
        cases.are("Promise 14: drop, those behind moved up, first and last", x.doing(0, 1) + " " + x.doing(28, 1) + " " + x.doing(29, 1),
                "1 5 -1");
        OnlyUpward y = filled(30);
        cases.is("Promise 14: drop, the last of 30", y.drop(29), 29);
        cases.are("Promise 14: drop, those ahead stay", y.doing(0, 1) + " " + y.doing(28, 1) + " " + y.doing(29, 1), "0 4 -1");
        OnlyUpward z = filled(3);
        cases.is("Promise 14: drop, the one in the middle", z.drop(1), 2);
        cases.are("Promise 14: drop, what is left", z.doing(0, 1) + " " + z.doing(1, 1), "0 2");
        cases.is("Promise 14: drop, the only one", filled(1).drop(0), 0);
        cases.refused("Promise 14: drop, of an empty PLAN", () -> filled(0), OnlyUpward::drop, 0);
        cases.refused("Promise 14: drop, one behind the last", () -> filled(2), OnlyUpward::drop, 2);
        cases.refused("Promise 14: drop, one behind the last of 30", () -> filled(30), OnlyUpward::drop, 30);
        cases.refused("Promise 14: drop, below 0 of 30", () -> filled(30), OnlyUpward::drop, -1);
        OnlyUpward w = five();
        w.say(0, A, B, T);
        int known = w.knows(B, 24);
        w.drop(0);
        cases.are("Promise 14: drop, what was known by it is not", known + " " + w.knows(B, 24) + " " + w.cost(), "3 2 0");
    }

    private void partsOfDoings() {
        OnlyUpward x = five();
        x.say(1, A, B, T);
        x.show(2, A, 0);
        x.leave(3, B, U);
        x.ask(23, C, A, U);
        x.show(0, B, 1);
        cases.are("Promise 15: doing, all of each sort", Cases.plan(x),
                "[(0 1 0 1 0 0)(1 2 0 0 0 0)(2 3 1 -1 1 0)(3 23 2 0 1 0)(1 0 1 1 1 0)] -2 113");
        for (int what : new int[] {-1, 6, Integer.MAX_VALUE, Integer.MIN_VALUE}) {
            cases.is("Promise 15: doing, no such what " + what, x.doing(0, what), NONE);
        }
        cases.is("Promise 15: doing, a writing has no other one", x.doing(2, 3), NONE);
        cases.is("Promise 15: doing, one behind the last", x.doing(5, 0), NONE);
        cases.is("Promise 15: doing, of an empty PLAN", five().doing(0, 5), NONE);
    }

    // ---- promises 16 and 17

    private void judged() {
        cases.is("Promise 16: judge, an empty PLAN", five().judge(), -2);
        OnlyUpward done = five();
        done.say(0, A, B, T);
        cases.is("Promise 16: judge, all are done", done.judge(), -2);
        OnlyUpward one = five();
        one.say(0, B, A, U);
        cases.is("Promise 16: judge, the only one is not", one.judge(), 0);
        OnlyUpward hours = five();
        hours.say(23, B, A, U);
        hours.say(22, B, A, U);
        hours.say(0, A, B, T);
        cases.is("Promise 16: judge, by HOURS first", hours.judge(), 1);
        OnlyUpward later = five();
        later.say(5, B, A, U);
        later.say(9, B, A, U);
        later.say(6, C, A, U);
        cases.is("Promise 16: judge, the first number at the first HOUR", later.judge(), 0);
        OnlyUpward alike = five();
        alike.say(1, A, B, T);
        alike.say(5, B, A, U);
        alike.say(5, C, A, U);
        cases.is("Promise 16: judge, then by numbers", alike.judge(), 1);
        OnlyUpward last = filled(29);
        last.say(23, B, A, U);
        cases.is("Promise 16: judge, the last of 30 at the last HOUR", last.judge(), 29);
        OnlyUpward ask = five();
        ask.ask(0, C, A, U);
        cases.is("Promise 16: judge, an ASK that is not answered is done", ask.judge(), -2);
    }

    private int costOf(int doing) {
        OnlyUpward x = five();
        switch (doing) {
            case 0:
                x.say(0, A, B, T);
                break;
            case 1:
                x.show(0, A, 0);
                break;
            case 2:
                x.leave(0, A, T);
                break;
            case 3:
                x.ask(0, A, B, U);
                break;
            case 4:
                x.show(0, B, 1);
                break;
            case 5:
                x.ask(0, C, A, U);
                break;
            default:
                x.say(0, B, A, T);
                x.show(1, C, 1);
                x.leave(2, C, U);
                x.ask(3, C, D, U);
                break;
        }
        return x.cost();
    }

    private void costs() {
        int[] due = {1, 7, 5, 1, 99, 1, 0};
        String[] names = {"SAY", "SHOW", "LEAVE", "ASK", "SHOW by an ACT of 99", "ASK that is not answered", "what is not done"};
        for (int i = 0; i < due.length; i++) {
            cases.is("Promise 17: cost, " + names[i], costOf(i), due[i]);
        }
        cases.is("Promise 17: cost, an empty PLAN", five().cost(), 0);
        cases.is("Promise 17: cost, thirty writings", filled(30).cost(), 150);
        OnlyUpward twice = five();
        twice.say(0, A, B, T);
        twice.say(0, A, C, T);
        cases.is("Promise 17: cost, one of two at an HOUR", twice.cost(), 1);
        OnlyUpward dear = five();
        for (int i = 0; i < 24; i++) {
            dear.show(i, B, 1);
        }
        cases.is("Promise 17: cost, an ACT of 99 each HOUR", dear.cost(), 24 * 99);
    }

    // ---- why a doing is not done

    private void reasonOne() {
        OnlyUpward x = five();
        x.say(3, A, B, T);
        x.say(3, B, C, U);
        x.say(4, A, B, T);
        x.say(3, A, C, T);
        cases.are("Term II, reason 1: a second one of that PERSON at that HOUR", x.doing(0, 5) + " " + x.doing(3, 5), "0 1");
        cases.is("Term II, reason 1: not another PERSON's", x.doing(1, 5), 0);
        cases.is("Term II, reason 1: not at another HOUR", x.doing(2, 5), 0);
        x.drop(0);
        cases.is("Term II, reason 1: the one ahead is dropped", x.doing(2, 5), 0);
        OnlyUpward y = five();
        y.say(3, A, D, T);
        y.leave(3, A, T);
        y.show(3, A, 0);
        cases.are("Term II, reason 1: the earlier one need not be done", y.doing(0, 5) + " " + y.doing(1, 5) + " " + y.doing(2, 5), "2 1 1");
        OnlyUpward z = five();
        z.say(4, A, B, T);
        z.say(3, A, B, T);
        cases.is("Term II, reason 1: an earlier number at a later HOUR", z.doing(1, 5), 0);
    }

    /** Of a doing behind another one of the same person at the same hour, and of it alone. */
    private void firstReason() {
        firstReason("1 ahead of 2", A, D, T, "1 2");
        firstReason("1 ahead of 3", A, B, U, "1 3");
        firstReason("1 ahead of 4", B, A, U, "1 4");
        firstReason("2 ahead of 3", A, D, U, "1 2");
        firstReason("2 ahead of 4", E, A, T, "1 2");
        firstReason("3 ahead of 4", B, A, T, "1 3");
        firstReason("2 ahead of 3 and 4", E, A, U, "1 2");
        firstReason("0, all holds", A, B, T, "1 0");
    }

    private void firstReason(String name, int person, int other, int thing, String due) {
        OnlyUpward second = five();
        second.ask(9, person, person == A ? B : A, T);
        second.say(9, person, other, thing);
        OnlyUpward alone = five();
        alone.say(9, person, other, thing);
        cases.are("Term II, reasons: " + name, second.doing(1, 5) + " " + alone.doing(0, 5), due);
    }

    private static int why(OnlyUpward x) {
        return x.doing(0, 5);
    }

    private void reasonsOfEach() {
        String nowhere = FIVE.replaceAll("(place|thin|at) [^;]*;", "");
        for (int n = 0; n < 2; n++) {
            OnlyUpward[] x = new OnlyUpward[4];
            for (int i = 0; i < 4; i++) {
                x[i] = Due.village(n == 0 ? nowhere : FIVE);
            }
            x[0].say(0, A, B, T);
            x[1].show(0, A, 0);
            x[2].leave(0, A, T);
            x[3].ask(0, A, B, T);
            cases.are("Term II, reason 2: " + (n == 0 ? "nowhere" : "somewhere"), "" + why(x[0]) + why(x[1]) + why(x[2]) + why(x[3]),
                    n == 0 ? "2222" : "0000");
        }
        OnlyUpward alone = five();
        alone.show(0, E, 0);
        alone.leave(1, E, T);
        cases.are("Term II, reason 2: SHOW and LEAVE need no other one there", alone.doing(0, 5) + " " + alone.doing(1, 5), "0 0");
        OnlyUpward wall = five();
        wall.say(0, A, D, T);
        wall.ask(1, A, D, T);
        cases.are("Term II, reason 2: behind a THIN wall is not at that PLACE", wall.doing(0, 5) + " " + wall.doing(1, 5), "2 2");
        OnlyUpward unknown = five();
        unknown.show(0, C, 0);
        unknown.leave(1, C, U);
        unknown.ask(2, C, B, U);
        cases.are("Term II, reason 3: SHOW and LEAVE, not ASK", unknown.doing(0, 5) + " " + unknown.doing(1, 5) + " " + unknown.doing(2, 5),
                "3 3 0");
        OnlyUpward law = Due.village(FIVE + "say if mine < 6; ask if mine < 6;");
        law.say(0, A, B, T);
        law.say(0, B, C, U);
        law.ask(1, A, B, T);
        law.ask(1, B, C, U);
        law.show(2, B, 1);
        law.leave(3, B, U);
        cases.are("Term II, reason 4: SAY and ASK by their LAWS, not SHOW and LEAVE", "" + law.doing(0, 5) + law.doing(1, 5)
                + law.doing(2, 5) + law.doing(3, 5) + law.doing(4, 5) + law.doing(5, 5), "040400");
        OnlyUpward hour = Due.village(FIVE + "say if hour == 7;");
        hour.say(6, A, B, T);
        hour.say(7, A, B, T);
        hour.say(8, A, B, T);
        cases.are("Term II, reason 4: MAY at that HOUR", "" + hour.doing(0, 5) + hour.doing(1, 5) + hour.doing(2, 5), "404");
    }

    // ---- what is known by the plan

    private void byWhatIsKnown() {
        OnlyUpward x = five();
        x.say(3, A, B, T);
        x.say(3, B, C, T);
        cases.is("Term II, THE PLAN: what comes to be known in an HOUR does not count in it", x.doing(1, 5), 3);
        OnlyUpward y = five();
        y.say(4, B, C, T);
        y.say(3, A, B, T);
        cases.is("Term II, THE PLAN: it counts in the next HOUR, whatever the numbers", y.doing(0, 5), 0);
        cases.are("Promise 18: knows, from the next HOUR on", y.knows(B, 3) + " " + y.knows(B, 4), "2 3");
        cases.is("Promise 18: knows, at first", five().knows(A, 0), 1);
        cases.is("Promise 18: knows, nothing is forgotten", five().knows(A, 24), 1);
        cases.is("Promise 18: knows, nothing", five().knows(C, 24), 0);
    }

    private void earshotOfSaying() {
        OnlyUpward x = five();
        x.say(0, A, B, T);
        cases.are("Term II, SAY: who is told, who is there, who is behind a THIN wall, who is farther", x.knows(B, 1) + " "
                + x.knows(C, 1) + " " + x.knows(D, 1) + " " + Due.village(FIVE).knows(E, 1), "3 1 1 1");
        OnlyUpward far = Due.village(FIVE.replace("knows e t;", ""));
        far.say(0, A, B, T);
        cases.is("Term II, SAY: not in EARSHOT", far.when(E, T), -2);
        OnlyUpward y = five();
        y.show(0, A, 0);
        cases.are("Term II, SHOW: at the PLACE alone, not behind a THIN wall", y.knows(B, 1) + " " + y.knows(C, 1) + " " + y.knows(D, 24),
                "3 1 0");
    }

    private void lastHour() {
        OnlyUpward x = five();
        x.say(23, A, B, T);
        cases.are("Promise 18: knows, told in HOUR 23, known at HOUR 24", x.knows(B, 23) + " " + x.knows(B, 24), "2 3");
        cases.is("Promise 19: when, told in HOUR 23", x.when(B, T), 24);
        for (int hour : new int[] {0, 7, 23}) {
            OnlyUpward show = five();
            show.show(hour, A, 0);
            cases.are("Promise 18: knows, shown in HOUR " + hour, show.knows(B, hour) + " " + show.knows(B, hour + 1) + " "
                    + show.when(B, T), "2 3 " + (hour + 1));
        }
        OnlyUpward shown = five();
        shown.show(3, A, 0);
        shown.say(3, B, C, T);
        shown.say(4, B, C, T);
        cases.are("Term II, SHOW: what is shown in an HOUR counts in the next", shown.doing(1, 5) + " " + shown.doing(2, 5), "3 0");
        OnlyUpward y = five();
        y.say(0, A, B, T);
        cases.are("Promise 18: knows, told in HOUR 0, known at HOUR 1", y.knows(B, 0) + " " + y.knows(B, 1), "2 3");
        cases.is("Promise 19: when, told in HOUR 0", y.when(B, T), 1);
    }

    private void writings() {
        cases.is("Term II, LEAVE: in HOUR 0, read in HOUR 1, known from HOUR 2 on", whenLeft(0, B), 2);
        cases.is("Term II, LEAVE: in HOUR 22, read in HOUR 23, known at HOUR 24", whenLeft(22, B), 24);
        cases.is("Term II, LEAVE: in HOUR 23, there is no later one", whenLeft(23, B), -2);
        cases.is("Term II, LEAVE: not behind a THIN wall", whenLeft(0, D), -2);
        OnlyUpward comes = Due.village(FIVE + "at d mill 9 9;");
        comes.leave(0, A, T);
        cases.is("Term II, LEAVE: one who is there in a later HOUR alone", comes.when(D, T), 10);
        OnlyUpward goes = Due.village(FIVE + "at b farm 4 23;");
        goes.leave(3, A, T);
        cases.is("Term II, LEAVE: one who is there in its own HOUR alone", goes.when(B, T), -2);
        OnlyUpward last = Due.village(FIVE + "at d mill 23 23;");
        last.leave(0, A, T);
        cases.is("Term II, LEAVE: one who is there in HOUR 23 alone", last.when(D, T), 24);
        OnlyUpward unknown = five();
        unknown.leave(0, A, U);
        cases.is("Term II, LEAVE: one that is not done is not read", unknown.when(C, U), -2);
        OnlyUpward away = Due.village(FIVE + "at a farm 1 23;");
        away.leave(0, A, T);
        cases.is("Term II, LEAVE: it stays where it was left", away.when(B, T), 2);
        OnlyUpward says = five();
        says.leave(0, A, T);
        says.say(1, B, C, T);
        says.say(2, B, C, T);
        cases.are("Term II, LEAVE: what is read in an HOUR counts in the next", says.doing(1, 5) + " " + says.doing(2, 5), "3 0");
    }

    /** When one knows what a leaves at an hour. */
    private static int whenLeft(int hour, int reader) {
        OnlyUpward x = five();
        x.leave(hour, A, T);
        return x.when(reader, T);
    }

    private void askedAndAnswered() {
        OnlyUpward x = five();
        x.ask(3, B, A, T);
        cases.are("Term II, ASK: it is said, all in EARSHOT know it", x.when(B, T) + " " + x.when(C, T) + " " + x.when(D, T), "4 4 4");
        OnlyUpward unknown = five();
        unknown.ask(3, A, C, U);
        cases.are("Term II, ASK: that one does not know it", unknown.doing(0, 5) + " " + unknown.when(A, U), "0 -2");
        OnlyUpward may = five();
        may.ask(3, A, B, U);
        cases.are("Term II, ASK: that one knows it, but MAY not say", may.doing(0, 5) + " " + may.when(A, U), "0 -2");
        OnlyUpward vain = five();
        vain.say(3, A, B, U);
        vain.ask(3, B, A, T);
        cases.are("Term II, ASK: that one answers though what he does is not done", vain.doing(0, 5) + " " + vain.when(B, T), "3 4");
        OnlyUpward busy = five();
        busy.say(3, A, C, T);
        busy.ask(3, B, A, T);
        cases.are("Term II, ASK: that one answers besides what he does", busy.doing(0, 5) + " " + busy.doing(1, 5), "0 0");
        OnlyUpward end = five();
        end.ask(23, B, A, T);
        cases.is("Term II, ASK: in the last HOUR", end.when(B, T), 24);
    }

    private void seen() {
        OnlyUpward x = five();
        x.ask(3, C, B, T);
        cases.are("Promise 20: seen, at the HOUR's beginning, then from the next on", x.seen(B, C, 3) + " " + x.seen(B, C, 4) + " "
                + x.seen(B, C, 24), "0 1 1");
        cases.are("Promise 20: seen, by all others in EARSHOT, by nobody else", x.seen(A, C, 4) + " " + x.seen(D, C, 4) + " "
                + x.seen(E, C, 4), "1 1 0");
        cases.is("Promise 20: seen, who was asked is not seen", x.seen(C, B, 4), 0);
        OnlyUpward knows = five();
        knows.ask(3, A, B, T);
        cases.is("Promise 20: seen, who knows it asks", knows.seen(B, A, 24), 0);
        OnlyUpward end = five();
        end.ask(23, C, B, U);
        cases.are("Promise 20: seen, asked in HOUR 23", end.seen(B, C, 23) + " " + end.seen(B, C, 24), "0 2");
        OnlyUpward first = five();
        first.ask(0, C, B, U);
        cases.are("Promise 20: seen, asked in HOUR 0", first.seen(B, C, 0) + " " + first.seen(B, C, 1), "0 2");
        OnlyUpward told = five();
        told.say(3, A, C, T);
        told.ask(3, C, B, T);
        cases.is("Promise 20: seen, what he comes to know in that HOUR he did not know", told.seen(B, C, 4), 1);
        OnlyUpward after = five();
        after.say(3, A, C, T);
        after.ask(4, C, B, T);
        cases.is("Promise 20: seen, what he came to know in the HOUR ahead he knows", after.seen(B, C, 24), 0);
        OnlyUpward not = five();
        not.ask(3, C, D, T);
        cases.are("Promise 20: seen, an ASK that is not done", not.doing(0, 5) + " " + not.seen(B, C, 24), "2 0");
        OnlyUpward both = five();
        both.ask(3, C, B, T);
        both.ask(4, C, B, U);
        cases.are("Promise 20: seen, two THINGS", both.seen(A, C, 4) + " " + both.seen(A, C, 5), "1 3");
        OnlyUpward known = five();
        known.ask(3, C, A, T);
        cases.are("Promise 20: seen, it is answered at once, and stays seen", known.when(C, T) + " " + known.seen(B, C, 24), "4 1");
    }

    private void when() {
        cases.is("Promise 19: when, at first", five().when(A, T), 0);
        cases.is("Promise 19: when, never", five().when(C, T), -2);
        OnlyUpward x = five();
        x.say(9, A, B, T);
        x.say(5, A, B, T);
        cases.is("Promise 19: when, told twice, the first HOUR", x.when(B, T), 6);
        OnlyUpward y = five();
        y.say(9, A, B, T);
        y.say(5, B, C, U);
        y.say(6, B, C, U);
        cases.is("Promise 19: when, of who tells it", y.when(B, U), 0);
    }

    // ---- promises 41 to 43

    private void slots() {
        OnlyUpward x = filled(3);
        cases.are("Promise 42: restore, nothing is held", x.restore(0) + " " + x.restore(1) + " " + x.restore(2) + " " + x.count(10),
                "false false false 3");
        for (int slot = 0; slot < 3; slot++) {
            OnlyUpward y = filled(3);
            cases.is("Promise 41: hold, SLOT " + slot, y.hold(slot), true);
            cases.is("Promise 43: count, one SLOT holds something, SLOT " + slot, y.count(12), 1);
            y.drop(0);
            y.say(4, A, B, T);
            y.say(5, A, B, T);
            for (int other = 0; other < 3; other++) {
                if (other != slot) {
                    cases.are("Promise 42: restore, SLOT " + other + " if SLOT " + slot + " alone holds something",
                            y.restore(other) + " " + y.count(10), "false 4");
                }
            }
            cases.is("Promise 42: restore, SLOT " + slot, y.restore(slot), true);
            cases.are("Promise 42: restore, as it was held, SLOT " + slot, Cases.plan(y), Cases.plan(filled(3)));
            y.drop(2);
            y.drop(1);
            y.restore(slot);
            cases.are("Promise 42: restore, it stays in SLOT " + slot, Cases.plan(y), Cases.plan(filled(3)));
        }
        OnlyUpward z = filled(2);
        z.hold(1);
        z.drop(0);
        z.hold(1);
        z.drop(0);
        z.restore(1);
        cases.are("Promise 41: hold, over what a SLOT held", z.count(10) + " " + z.doing(0, 1) + " " + z.count(12), "1 1 1");
        OnlyUpward v = filled(0);
        v.hold(1);
        v.say(4, A, B, T);
        int when = v.when(B, T);
        v.restore(1);
        cases.are("Promise 42: restore, what was known is not", when + " " + v.when(B, T), "5 -2");
        OnlyUpward w = filled(2);
        w.hold(0);
        w.say(9, A, B, T);
        cases.are("Promise 41: hold, the PLAN goes on as it is", w.count(10) + " " + w.when(B, T), "3 2");
    }

    private void slotsAndFullPlans() {
        OnlyUpward x = filled(30);
        x.hold(2);
        for (int i = 0; i < 30; i++) {
            x.drop(0);
        }
        x.hold(0);
        x.restore(2);
        cases.are("Promise 42: restore, a full PLAN", x.count(10) + " " + x.cost() + " " + x.leave(0, A, T), "30 150 -1");
        x.restore(0);
        cases.are("Promise 42: restore, an empty PLAN", x.count(10) + " " + x.cost() + " " + x.judge() + " " + x.leave(0, A, T), "0 0 -2 0");
        x.restore(2);
        cases.is("Promise 42: restore, the last of a full PLAN", x.doing(29, 1), 5);
        OnlyUpward y = filled(29);
        y.hold(0);
        y.say(0, A, B, T);
        y.restore(0);
        cases.is("Promise 42: restore, it goes on from what was held", y.say(7, A, B, T), 29);
        OnlyUpward z = five();
        z.hold(0);
        cases.are("Promise 41: hold, an empty PLAN is something held", z.restore(0) + " " + z.count(12), "true 1");
        OnlyUpward three = filled(1);
        three.hold(0);
        three.drop(0);
        three.hold(1);
        three.say(1, A, B, T);
        three.say(2, A, B, T);
        three.hold(2);
        cases.is("Promise 43: count, all SLOTS hold something", three.count(12), 3);
        cases.are("Promise 42: restore, each SLOT its own", three.restore(0) + " " + three.count(10) + " " + three.restore(1) + " "
                + three.count(10) + " " + three.restore(2) + " " + three.count(10), "true 1 true 0 true 2");
    }

    private void slotsAndTexts() {
        OnlyUpward x = filled(3);
        x.hold(0);
        x.hold(2);
        Due.read(x, "place");
        cases.are("Promise 42: restore, behind a faulty text", x.count(12) + " " + x.restore(0) + " " + x.count(10), "2 true 3");
        Due.read(x, FIVE);
        cases.are("Promise 42: restore, behind a text without FAULT", x.count(12) + " " + x.restore(0) + " " + x.restore(2) + " "
                + x.count(10), "0 false false 0");
    }

    private void counts() {
        OnlyUpward x = five();
        StringBuilder got = new StringBuilder();
        for (int what = 0; what <= 9; what++) {
            got.append(x.count(what)).append(' ');
        }
        cases.are("Promise 43: count, 0 to 9", got.toString(), "3 5 2 1 2 0 2 0 0 0 ");
        cases.are("Promise 43: count, DOINGS of none, of 30", x.count(10) + " " + filled(30).count(10), "0 30");
        OnlyUpward y = five();
        Due.feed(y, "abc");
        cases.are("Promise 43: count, bytes on the tape", x.count(11) + " " + y.count(11), "0 3");
        int[] others = {-1, -2, 13, 14, 19, 22, 25, 29, 30, 34, 39, 42, 46, 49, 50, 100, Integer.MAX_VALUE, Integer.MIN_VALUE};
        for (int other : others) {
            cases.is("Promise 43: count, no such what " + other, x.count(other), NONE);
        }
        OnlyUpward z = Due.village("thing a 0; thing b 99; act s a 1; act r a 99; task k a; task j b, a;");
        cases.are("Promise 43: count, the least and the most WORTH", z.count(20) + " " + z.count(21), "0 99");
        cases.are("Promise 43: count, the least and the most COST", z.count(40) + " " + z.count(41), "1 99");
        cases.are("Promise 43: count, a TASK of one THING, of two", z.count(30) + " " + z.count(31), "1 2");
    }

    private void countsWhenFull() {
        String six = "thing a 1;thing b 2;thing c 3;thing d 4;thing e 5;thing f 6;";
        OnlyUpward x = Due.village(six + "task ta a,b,c,d,e,f;task tb a;task tc a;task td a,b;act sa a 1;act sb a 2;act sc a 3;"
                + "act sd a 4;act se a 5;act sf a 6;place l;place m;person p 1;" + "thin l m;".repeat(8) + "knows p a;".repeat(12));
        cases.are("Promise 43: count, all six WORTHS", x.count(19) + " " + x.count(20) + " " + x.count(25) + " " + x.count(26), "-1 1 6 -1");
        cases.are("Promise 43: count, all four TASKS", x.count(29) + " " + x.count(30) + " " + x.count(33) + " " + x.count(34), "-1 6 2 -1");
        cases.are("Promise 43: count, all six COSTS", x.count(39) + " " + x.count(40) + " " + x.count(45) + " " + x.count(46), "-1 1 6 -1");
        cases.are("Promise 43: count, eight THIN walls, six ACTS, four TASKS", x.count(3) + " " + x.count(6) + " " + x.count(7), "8 6 4");
        OnlyUpward y = Due.village("place l;person p 1;thing t 1;" + "at p l 0 1;".repeat(20) + "must p t 1;".repeat(12)
                + "say if 1 == 1;ask if 1 == 1;".repeat(4));
        cases.are("Promise 43: count, twenty STAYS, twelve MUSTS, four LAWS of each", y.count(4) + " " + y.count(5) + " " + y.count(8)
                + " " + y.count(9), "20 12 4 4");
    }
}
