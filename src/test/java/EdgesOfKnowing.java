/** LOST, BEFORE, MISSED, HARM, CAN, TASK, RANK, SHARE, THE RULE: promises 29 to 38. */
final class EdgesOfKnowing {
    private static final int NONE = Cases.NONE;
    private static final int A = 0;
    private static final int B = 1;
    private static final int C = 2;

    private final Cases cases;

    private EdgesOfKnowing(Cases cases) {
        this.cases = cases;
    }

    static void look(Cases cases) {
        EdgesOfKnowing edges = new EdgesOfKnowing(cases);
        edges.lost();
        edges.before();
        edges.missed();
        edges.missedNumbers();
        edges.harm();
        edges.can();
        edges.task();
        edges.rank();
        edges.rankOfTen();
        edges.share();
        edges.shareOfTen();
        edges.ruleByHours();
        edges.ruleByWorths();
        edges.ruleByOrder();
        edges.ruleByAge();
        edges.ruleHourByHour();
        edges.ruled();
    }

    // ---- promises 29 and 30

    private void lost() {
        String two = "place l; person a 5; person b 6; person c 7; thing t 4; thing u 4; knows a t; knows a u;";
        OnlyUpward x = Due.village(two);
        cases.are("Promise 29: lost, all that one knows", x.lost(A, 0) + " " + x.lost(A, 24), "3 3");
        cases.is("Promise 29: lost, with one who knows nothing", x.lost(B, 0), 0);
        x.say(3, A, B, 0);
        cases.are("Promise 29: lost, until another one knows it", x.lost(A, 3) + " " + x.lost(A, 4), "3 2");
        cases.is("Promise 29: lost, nor with the other one", x.lost(B, 4), 0);
        OnlyUpward both = Due.village(two + "knows c t;");
        cases.are("Promise 29: lost, known by two at first", both.lost(A, 0) + " " + both.lost(C, 0), "2 0");
        OnlyUpward end = Due.village(two);
        end.say(23, A, C, 1);
        cases.are("Promise 29: lost, told in HOUR 23", end.lost(A, 23) + " " + end.lost(A, 24), "3 1");
        OnlyUpward alone = Due.village("person a 5; thing t 1; knows a t;");
        cases.is("Promise 29: lost, one alone", alone.lost(A, 0), 1);
    }

    private void before() {
        String five = "person a 5; person b 6; thing t 3; thing u 9; thing v 9; thing w 0; thing x 99;";
        cases.is("Promise 30: before, nothing is LOST", Due.village(five).before(A, 0), -2);
        cases.is("Promise 30: before, one of no WORTH", Due.village(five + "knows a w;").before(A, 24), 3);
        cases.is("Promise 30: before, the one of most WORTH", Due.village(five + "knows a t; knows a v;").before(A, 0), 2);
        cases.is("Promise 30: before, of alike ones the first", Due.village(five + "knows a t; knows a v; knows a u;").before(A, 0), 1);
        cases.is("Promise 30: before, the most WORTH there is, the last", Due.village(five + "knows a t; knows a x;").before(A, 0), 4);
        cases.is("Promise 30: before, not what another one knows", Due.village(five + "knows a t; knows a x; knows b x;").before(A, 0), 0);
        OnlyUpward x = Due.village("place l;" + five + "knows a t; knows a x;");
        x.say(23, A, B, 4);
        cases.are("Promise 30: before, at an HOUR", x.before(A, 23) + " " + x.before(A, 24), "4 0");
        OnlyUpward all = Due.village("place l;" + five + "knows a t;");
        all.say(0, A, B, 0);
        cases.are("Promise 30: before, nothing is LOST any more", all.before(A, 0) + " " + all.before(A, 1), "0 -2");
    }

    // ---- promises 31 to 33

    /** b must know t by an hour; a says it at another one. */
    private static OnlyUpward must(int by, int told) {
        OnlyUpward x = Due.village("place l; person a 5; person b 6; thing t 7; knows a t; must b t " + by + ";");
        x.say(told, A, B, 0);
        return x;
    }

    private static String missedAndHarm(OnlyUpward x) {
        return x.missed(NONE) + " " + x.missed(0) + " " + x.harm();
    }

    private void missed() {
        cases.are("Promise 31: missed, told in the HOUR ahead", missedAndHarm(must(5, 4)), "0 -1 0");
        cases.are("Promise 31: missed, told in that HOUR", missedAndHarm(must(5, 5)), "1 0 7");
        cases.are("Promise 31: missed, by HOUR 0", missedAndHarm(must(0, 0)), "1 0 7");
        cases.are("Promise 31: missed, by HOUR 1", missedAndHarm(must(1, 0)), "0 -1 0");
        cases.are("Promise 31: missed, by HOUR 23, told in HOUR 22", missedAndHarm(must(23, 22)), "0 -1 0");
        cases.are("Promise 31: missed, by HOUR 23, told in HOUR 23", missedAndHarm(must(23, 23)), "1 0 7");
        OnlyUpward first = Due.village("person a 5; thing t 7; knows a t; must a t 0;");
        cases.are("Promise 31: missed, by HOUR 0, known at first", missedAndHarm(first), "0 -1 0");
        OnlyUpward behind = Due.village("person a 5; thing t 7; must a t 0; knows a t;");
        cases.are("Promise 31: missed, known at first, told behind the MUST", missedAndHarm(behind), "0 -1 0");
    }

    private void missedNumbers() {
        String people = "place l; person a 5; person b 6; thing t 7; thing u 0; knows a t;";
        OnlyUpward none = Due.village(people);
        cases.are("Promise 31: missed, no MUSTS", missedAndHarm(none), "0 -1 0");
        OnlyUpward some = Due.village(people + "must a t 0; must b t 3; must a t 9; must b u 4; must b t 2;");
        cases.are("Promise 31: missed, the first, the last, one behind, below NONE", some.missed(NONE) + " " + some.missed(0) + " "
                + some.missed(1) + " " + some.missed(2) + " " + some.missed(3) + " " + some.missed(-2), "3 1 3 4 -1 -1");
        some.say(2, A, B, 0);
        cases.are("Promise 31: missed, those that are known are passed over", some.missed(NONE) + " " + some.missed(0) + " "
                + some.missed(1) + " " + some.missed(2), "2 3 4 -1");
        OnlyUpward full = Due.village(people + "must b t 0;".repeat(12));
        cases.are("Promise 31: missed, all twelve", full.missed(NONE) + " " + full.missed(0) + " " + full.missed(11) + " " + full.missed(12),
                "12 0 11 -1");
    }

    private void harm() {
        String people = "person a 5; thing t 99; thing u 0; thing v 1;";
        cases.is("Promise 32: harm, no MUSTS", Due.village(people).harm(), 0);
        cases.is("Promise 32: harm, a THING of no WORTH", Due.village(people + "must a u 5;").harm(), 0);
        cases.is("Promise 32: harm, one MUST twice", Due.village(people + "must a v 5; must a v 5;").harm(), 2);
        cases.is("Promise 32: harm, twelve of 99", Due.village(people + "must a t 23;".repeat(12)).harm(), 1188);
        cases.is("Promise 32: harm, all known", Due.village(people + "must a t 0; knows a t;").harm(), 0);
        cases.is("Promise 32: harm, a new object", new OnlyUpward().harm(), 0);
    }

    private static String canAndBound(String text) {
        OnlyUpward x = Due.village(text);
        return x.can(0) + " " + x.can(1);
    }

    private void can() {
        String pair = "place l; place m; person a 5; person b 6; thing t 7; knows a t; at b m 0 4;";
        cases.are("Promise 33: can, SOON is its HOUR", canAndBound(pair + "must b t 6;"), "1 0");
        cases.are("Promise 33: can, SOON is one behind its HOUR", canAndBound(pair + "must b t 5;"), "0 7");
        cases.are("Promise 33: can, no MUSTS", canAndBound(pair), "0 0");
        cases.are("Promise 33: can, by HOUR 0, known at first", canAndBound(pair + "must a t 0;"), "1 0");
        cases.are("Promise 33: can, by HOUR 0, not known at first", canAndBound(pair + "must b t 0;"), "0 7");
        cases.are("Promise 33: can, SOON is 23, by HOUR 23", canAndBound(pair + "at b m 5 21; must b t 23;"), "1 0");
        cases.are("Promise 33: can, SOON is HOUR 24, by HOUR 23", canAndBound(pair + "at b m 5 22; must b t 23;"), "0 7");
        cases.are("Promise 33: can, never", canAndBound(pair + "thing u 9; must b u 23; must b u 23; must b t 23;"), "1 18");
        cases.are("Promise 33: can, by an ACT or a writing, LAW 0", canAndBound("place l; person a 6; person b 5; thing t 7; thing u 8; "
                + "knows a t; knows a u; act s t 9; must b t 1; must b u 1; must b u 2;"), "2 8");
        cases.are("Promise 33: can, twelve that can't", canAndBound("person a 5; thing t 99;" + "must a t 23;".repeat(12)), "0 1188");
        cases.are("Promise 33: can, from the last of ten in one PLACE", canAndBound("place l; thing t 5; person a 9; person b 9; person c 9;"
                + "person d 9; person e 9; person f 9; person g 9; person h 9; person i 9; person j 9; knows j t; must a t 1;"), "1 0");
        OnlyUpward plan = Due.village(pair + "must b t 0;");
        plan.say(0, A, B, 0);
        cases.are("Promise 33: can, no such what", plan.can(2) + " " + plan.can(-1), "-1 -1");
    }

    // ---- promise 34

    private void task() {
        String pair = "place l; place m; person a 5; person b 6; thing t 7; thing u 1; thing v 1; knows a t; knows b u; knows a u;"
                + "at b m 0 4; task one t; task two u, t; task three t, u, v;";
        OnlyUpward x = Due.village(pair);
        cases.is("Promise 34: task, all known at first", x.task(0, A), 0);
        cases.is("Promise 34: task, of one THING", x.task(0, B), 6);
        cases.is("Promise 34: task, the latest of two, told last", x.task(1, B), 6);
        cases.is("Promise 34: task, of two known at first", x.task(1, A), 0);
        cases.is("Promise 34: task, one THING is known by nobody", x.task(2, A), -2);
        cases.is("Promise 34: task, known at HOUR 24", Due.village(pair + "at b m 5 22;").task(1, B), 24);
        cases.is("Promise 34: task, never", Due.village(pair + "at b m 5 23;").task(1, B), -2);
        OnlyUpward six = Due.village("place l; place m; person a 5; person b 6; thing q 1; thing r 1;"
                + "thing s 1; thing t 1; thing u 1; thing v 1; knows a q; knows a r; knows a s; knows a t; knows b u; knows a v; at b m 0 2;"
                + "task k q, r, s, t, u, v;");
        cases.are("Promise 34: task, of six THINGS", six.task(0, B) + " " + six.task(0, A), "4 5");
    }

    // ---- promises 35 and 36

    private static String ranks(OnlyUpward x, int hour) {
        StringBuilder s = new StringBuilder();
        for (int i = 0; i < x.count(1); i++) {
            s.append(x.rank(hour, i));
        }
        return s.toString();
    }

    private void rank() {
        String three = "place l; person a 5; person b 6; person c 6; thing t 1; thing u 1; knows a t;";
        OnlyUpward x = Due.village(three);
        cases.are("Promise 35: rank, by how many THINGS, the older first, then by numbers", ranks(x, 0), "012");
        x.say(3, A, C, 0);
        cases.are("Promise 35: rank, at the HOUR's beginning", ranks(x, 3) + " " + ranks(x, 4), "012 120");
        OnlyUpward alike = Due.village("person a 5; person b 5; person c 5; thing t 1;");
        cases.are("Promise 35: rank, all alike", ranks(alike, 0) + " " + ranks(alike, 24), "012 012");
        OnlyUpward birth = Due.village("person a 5; person b 5 birth 23; person c 5 birth 0; thing t 1;");
        cases.are("Promise 35: rank, AGE at HOURS 0, 22, 23, 24", ranks(birth, 0) + " " + ranks(birth, 22) + " " + ranks(birth, 23) + " "
                + ranks(birth, 24), "201 201 120 120");
        OnlyUpward most = Due.village("person a 99; person b 0; thing t 1; thing u 1; knows b t;");
        cases.are("Promise 35: rank, one THING more than the oldest", ranks(most, 0), "10");
        OnlyUpward worth = Due.village("person a 5; person b 6; thing t 99; thing u 0; thing v 0; knows a t; knows b u; knows b v;");
        cases.are("Promise 35: rank, how many, not of what WORTH", ranks(worth, 0), "10");
    }

    private void rankOfTen() {
        StringBuilder s = new StringBuilder();
        for (int i = 0; i < 10; i++) {
            s.append("person p").append((char) ('a' + i)).append(' ').append(i).append(';');
        }
        OnlyUpward x = Due.village(s + "thing t 1; knows pd t;");
        cases.are("Promise 35: rank, ten of them", ranks(x, 24), "3987654210");
        cases.are("Promise 35: rank, i 9, i 10, i -1", x.rank(0, 9) + " " + x.rank(0, 10) + " " + x.rank(0, -1), "0 -1 -1");
    }

    private static String shares(OnlyUpward x, int hour, int most) {
        StringBuilder s = new StringBuilder();
        for (int k = 0; k <= most; k++) {
            s.append(x.share(hour, k, 0)).append(' ');
        }
        return s.append(x.share(hour, 0, 1)).toString();
    }

    private void share() {
        OnlyUpward x = Due.village("place l; person a 5; person b 6; person c 6; thing t 1; thing u 1; thing v 1; knows a t; knows a u;"
                + "knows a v; knows c t; knows c u; knows b t;");
        cases.are("Promise 36: share, of none, of the oldest, of alike ones the first, of all", shares(x, 0, 4), "0 1 3 6 6 6");
        x.say(23, A, B, 2);
        cases.are("Promise 36: share, at HOURS 23 and 24", shares(x, 23, 3) + ", " + shares(x, 24, 3), "0 1 3 6 6, 0 2 5 8 8");
        OnlyUpward birth = Due.village("person a 5; person b 5 birth 0; person c 5 birth 1; thing t 1; knows b t;");
        cases.are("Promise 36: share, AGE at HOUR 0, whatever the HOUR", shares(birth, 24, 3), "0 1 1 1 1");
        OnlyUpward later = Due.village("person a 5; person b 5 birth 1; thing t 1; knows b t;");
        cases.are("Promise 36: share, a birth behind HOUR 0 does not count", shares(later, 24, 2), "0 0 1 1");
    }

    private void shareOfTen() {
        StringBuilder s = new StringBuilder("place l;");
        for (int i = 0; i < 10; i++) {
            char n = (char) ('a' + i);
            s.append("person p").append(n).append(' ').append(i).append(';').append(i < 6 ? "thing t" + n + " 1;" : "");
        }
        OnlyUpward x = Due.village(s + "knows pa ta; knows pa tb; knows pa tc; knows pa td; knows pa te; knows pa tf;");
        cases.are("Promise 36: share, only the youngest of ten knows anything", shares(x, 0, 10), "0 0 0 0 0 0 0 0 0 0 6 6");
        for (int thing = 0; thing < 6; thing++) {
            x.say(thing, A, B, thing);
        }
        cases.are("Promise 36: share, all ten know all six THINGS", shares(x, 24, 10), "0 6 12 18 24 30 36 42 48 54 60 60");
        cases.is("Promise 36: share, k 11", x.share(24, 11, 0), NONE);
    }

    // ---- promises 37 and 38

    private static String rule(String text) {
        OnlyUpward x = Due.village(text);
        return x.rule(0) + " " + x.rule(1) + " " + x.rule(2);
    }

    private static String pair(int meet, int by) {
        return "place l; place m; person a 5; person b 6; thing t 7; knows a t; at b m 0 23; at b l " + meet + " " + meet + "; must b t "
                + by + ";";
    }

    private void ruleByHours() {
        cases.are("Promise 37: rule, the MUST's HOUR is the next one", rule(pair(4, 5)), "0 1 1");
        cases.are("Promise 37: rule, the MUST's HOUR is this one", rule(pair(5, 5)), "7 0 0");
        cases.are("Promise 37: rule, the MUST's HOUR is ahead of this one", rule(pair(6, 5)), "7 0 0");
        cases.are("Promise 37: rule, by HOUR 1, in HOUR 0", rule(pair(0, 1)), "0 1 1");
        cases.are("Promise 37: rule, by HOUR 0", rule(pair(0, 0)), "7 0 0");
        cases.are("Promise 37: rule, by HOUR 23, in HOUR 22", rule(pair(22, 23)), "0 1 1");
        cases.are("Promise 37: rule, by HOUR 23, in HOUR 23", rule(pair(23, 23)), "7 0 0");
        cases.are("Promise 37: rule, no MUSTS", rule("place l; person a 5; person b 6; thing t 7; knows a t;"), "0 0 0");
        cases.are("Promise 37: rule, known already", rule(pair(0, 9) + "knows b t;"), "0 0 0");
        cases.are("Promise 37: rule, twice needed, told once", rule(pair(3, 9) + "at b l 5 5; must b t 23;"), "0 1 1");
        OnlyUpward x = Due.village(pair(3, 9));
        x.say(3, B, A, 0);
        x.leave(0, A, 0);
        cases.are("Promise 37: rule, without THE PLAN", x.rule(0) + " " + x.rule(1) + " " + x.rule(2) + " " + x.rule(3) + " " + x.rule(-1),
                "0 1 1 -1 -1");
    }

    private void ruleByWorths() {
        String two = "place l; person a 5; person b 6; thing t 0; thing u 1; thing v 99; knows a t; knows a u; knows a v;";
        cases.are("Promise 37: rule, a sum of 0 is not above 0", rule(two + "must b t 9;"), "0 0 0");
        cases.are("Promise 37: rule, a sum of 1 is above 0", rule(two + "must b u 9;"), "0 1 1");
        cases.are("Promise 37: rule, the greatest sum first, one a HOUR", rule(two + "must b u 1; must b v 1;"), "1 1 1");
        cases.are("Promise 37: rule, then the others", rule(two + "must b u 2; must b v 1;"), "0 2 2");
        cases.are("Promise 37: rule, twelve MUSTS by one DOING", rule(two + "must b v 1;".repeat(12)), "0 1 1");
        String sums = "place l; person a 5; person b 6; person c 7; thing t 3; thing u 5; knows a t; knows a u;";
        cases.are("Promise 37: rule, the last of more MUSTS than PEOPLE counts", rule("place l; person a 5; person b 6; thing t 3; thing u 5;"
                + "knows a t; knows a u; must b u 1; must b t 1; must b t 1;"), "5 1 1");
        cases.are("Promise 37: rule, two of 3 are more than one of 5", rule(sums + "must b t 1; must c t 1; must b u 1;"), "5 1 1");
    }

    private void ruleByOrder() {
        String two = "place l; person a 5; person b 6; thing t 4; thing u 4; knows a t; knows a u; must b t 1; must b u 1;";
        OnlyUpward thing = Due.village(two);
        cases.is("Promise 37: rule, of alike ones the first THING", thing.ruled(B, 1) * 10 + thing.rule(2), 11);
        cases.are("Promise 37: rule, SAY ahead of SHOW", rule(two + "act s t 9;"), "4 1 1");
        cases.are("Promise 37: rule, SAY of a later THING ahead of SHOW", rule("place l; person a 5; person b 6; thing t 4; thing u 4;"
                + "knows a t; knows a u; must b u 1; act s u 9;"), "0 1 1");
        cases.are("Promise 37: rule, SHOW if one MAY not say it", rule("place l; place m; thin l m; person a 5; person b 6; thing t 4; thing u 5;"
                + "knows a t; must b t 1; act s t 9; say if 1 == 2;"), "0 9 1");
        OnlyUpward act = Due.village("place l; person a 6; person b 5; thing t 4; thing u 4; knows a t; knows a u; must b t 1; must b u 1;"
                + "act s u 8; act r t 9;");
        cases.is("Promise 37: rule, of alike ones the first ACT", act.ruled(B, 1) * 100 + act.rule(1), 208);
        OnlyUpward alike = Due.village("place l; person a 6; person b 5; thing t 4; knows a t; must b t 1; act s t 9; act r t 1;");
        cases.is("Promise 37: rule, the first ACT though it costs more", alike.rule(1), 9);
        OnlyUpward wall = Due.village("place l; place m; thin l m; person a 5; person b 6; person c 1; at c m 0 23; thing t 4; knows a t;"
                + "must c t 1; act s t 3;");
        cases.are("Promise 37: rule, SAY is heard by whom SHOW does not reach", wall.rule(0) + " " + wall.rule(1), "0 1");
    }

    private void ruleByAge() {
        String four = "place l; person a 5; person b 5; person c 6; person d 9; thing t 4; thing u 4;";
        OnlyUpward older = Due.village(four + "knows b t; knows c t; knows c u; must d t 9; must d u 9;");
        cases.are("Promise 37: rule, the oldest first: what he says nobody says again", older.ruled(3, 1) + " " + older.rule(2), "1 2");
        OnlyUpward younger = Due.village(four + "knows c t; knows b t; knows b u; must d t 9; must d u 9;");
        cases.are("Promise 37: rule, then the next one says what is left", younger.ruled(3, 1) + " " + younger.rule(2), "3 2");
        OnlyUpward first = Due.village(four + "knows a t; knows b t; knows b u; must d t 9; must d u 9;");
        cases.are("Promise 37: rule, of alike ones the first", first.ruled(3, 1) + " " + first.rule(2), "3 2");
        OnlyUpward second = Due.village(four + "knows b t; knows a t; knows a u; must d t 9; must d u 9;");
        cases.are("Promise 37: rule, of alike ones not the second", second.ruled(3, 1) + " " + second.rule(2), "1 2");
        String births = "place l; place m; person a 5; person b 5 birth 3; person d 9; thing t 4; thing u 4; knows a t; knows b t;"
                + "knows b u; must d t 9; must d u 9; at d m 0 23;";
        OnlyUpward ahead = Due.village(births + "at d l 2 2;");
        cases.is("Promise 37: rule, AGE in the HOUR ahead of a birth", ahead.ruled(2, 3), 3);
        OnlyUpward from = Due.village(births + "at d l 3 3;");
        cases.is("Promise 37: rule, AGE in the HOUR of a birth", from.ruled(2, 4), 1);
    }

    private void ruleHourByHour() {
        OnlyUpward x = Due.village("place l; person a 5; person b 6; person c 7; thing t 4; thing u 4; knows a t; must b t 9; must c u 9;"
                + "knows b u; must a u 9;");
        cases.are("Promise 37: rule, who knows nothing of it says nothing", x.rule(0) + " " + x.rule(1) + " " + x.rule(2), "0 2 2");
        OnlyUpward row = Due.village("place l; place m; place n; person a 5; person b 6; person c 7; thing t 4; knows a t; at b l 0 0;"
                + "at b m 1 23; at c m 0 23; must b t 9; must c t 2;");
        cases.are("Promise 37: rule, what is told in an HOUR is told on in the next", row.rule(0) + " " + row.rule(2), "0 2");
        OnlyUpward late = Due.village("place l; place m; place n; person a 5; person b 6; person c 7; thing t 4; knows a t; at b l 0 0;"
                + "at b m 1 23; at c m 0 23; must b t 9; must c t 1;");
        cases.are("Promise 37: rule, one HOUR too late", late.rule(0) + " " + late.rule(2), "4 1");
        cases.are("Promise 37: rule, one who MAY say it to nobody does not", rule("place l; person a 5; person b 6; thing t 4; knows b t;"
                + "must a t 9;"), "4 0 0");
        OnlyUpward needless = Due.village("place l; place m; person a 5; person b 6; person c 7; thing t 4; knows a t; at c m 0 0;"
                + "at b m 1 1; must c t 9;");
        cases.are("Promise 37: rule, nothing is said to one who need not know it", needless.ruled(B, 2) + " " + needless.ruled(C, 2), "0 1");
    }

    private void ruled() {
        OnlyUpward x = Due.village(pair(22, 23));
        cases.are("Promise 38: ruled, at first, until it is told, from the next HOUR on, at the end", x.ruled(B, 0) + " " + x.ruled(B, 22)
                + " " + x.ruled(B, 23) + " " + x.ruled(B, 24), "0 0 1 1");
        cases.are("Promise 38: ruled, who knows it at first", x.ruled(A, 0) + " " + x.ruled(A, 24), "1 1");
        cases.are("Promise 38: ruled, HOURS 25 and -1, PERSONS 2 and -1", x.ruled(A, 25) + " " + x.ruled(A, -1) + " " + x.ruled(2, 0) + " "
                + x.ruled(-1, 0), "-1 -1 -1 -1");
        x.leave(0, A, 0);
        x.say(22, A, B, 0);
        cases.is("Promise 38: ruled, without THE PLAN", x.ruled(B, 22), 0);
        Due.read(x, pair(3, 23));
        cases.is("Promise 38: ruled, of a new text", x.ruled(B, 4), 1);
    }
}
