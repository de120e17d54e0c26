/** SOON, ALL, CHEAP, SECRET, BELOW, STAND, BEST: promises 21 to 28. */
final class EdgesOfSpreading {
    private static final int NONE = Cases.NONE;
    private static final int A = 0;
    private static final int B = 1;
    private static final int C = 2;
    private static final int TOLD = 0;
    private static final int DOWNWARD = 1;
    private static final int BOTH = 2;
    private static final int NOBODY = 3;

    private final Cases cases;

    private EdgesOfSpreading(Cases cases) {
        this.cases = cases;
    }

    static void look(Cases cases) {
        EdgesOfSpreading edges = new EdgesOfSpreading(cases);
        edges.soonByHours();
        edges.soonByLaws();
        edges.soonByActs();
        edges.soonByWritings();
        edges.soonHourByHour();
        edges.all();
        edges.cheapByHours();
        edges.cheapOfNothing();
        edges.cheapByCost();
        edges.cheapByCount();
        edges.cheapByOrder();
        edges.cheapOneAnHour();
        edges.cheapShownElsewhere();
        edges.longestCheap();
        edges.cheapSteps();
        edges.secret();
        edges.below();
        edges.stand();
        edges.best();
        edges.bestOfAll();
    }

    /** a of 5 and b of 9 who are together at one hour alone. */
    private static OnlyUpward pair(int hour, String more) {
        String ahead = hour > 0 ? "at b m 0 " + (hour - 1) + ";" : "";
        String behind = hour < 23 ? "at b m " + (hour + 1) + " 23;" : "";
        return Due.village("place l; place m; person a 5; person b 9; thing t 4; knows a t;" + ahead + behind + more);
    }

    // ---- promises 21 and 22

    private void soonByHours() {
        cases.is("Promise 21: soon, they meet in HOUR 0", pair(0, "").soon(B, 0, 1, 0, TOLD, true), 1);
        cases.is("Promise 21: soon, they met in HOUR 0, h0 is 1", pair(0, "").soon(B, 0, 1, 1, TOLD, true), -2);
        cases.is("Promise 21: soon, they meet in HOUR 7, h0 is 7", pair(7, "").soon(B, 0, 1, 7, TOLD, true), 8);
        cases.is("Promise 21: soon, they meet in HOUR 7, h0 is 6", pair(7, "").soon(B, 0, 1, 6, TOLD, true), 8);
        cases.is("Promise 21: soon, they met in HOUR 7, h0 is 8", pair(7, "").soon(B, 0, 1, 8, TOLD, true), -2);
        cases.is("Promise 21: soon, they meet in HOUR 23, known at HOUR 24", pair(23, "").soon(B, 0, 1, 0, TOLD, true), 24);
        cases.is("Promise 21: soon, they meet in HOUR 23, h0 is 23", pair(23, "").soon(B, 0, 1, 23, TOLD, true), 24);
        cases.is("Promise 21: soon, they met in HOUR 22, h0 is 23", pair(22, "").soon(B, 0, 1, 23, TOLD, true), -2);
        cases.is("Promise 21: soon, who knows it at h0 0", pair(0, "").soon(A, 0, 1, 0, TOLD, true), 0);
        cases.is("Promise 21: soon, who knows it at h0 23", pair(0, "").soon(A, 0, 1, 23, NOBODY, true), 23);
        cases.is("Promise 21: soon, from nobody", pair(0, "").soon(A, 0, 0, 0, BOTH, false), -2);
        cases.is("Promise 21: soon, from all", pair(0, "").soon(B, 0, 3, 5, NOBODY, true), 5);
        cases.is("Promise 21: soon, not from who knows it at first", pair(0, "").soon(A, 0, 2, 0, TOLD, true), -2);
        OnlyUpward plan = pair(0, "");
        plan.say(0, A, B, 0);
        cases.is("Promise 21: soon, without THE PLAN", plan.soon(B, 0, 1, 1, TOLD, true), -2);
    }

    private void soonByLaws() {
        OnlyUpward alike = Due.village("place l; person a 5; person b 5; person c 6; person d 5 birth 10; thing t 4;");
        cases.is("Promise 21: soon, as told: of one AGE", alike.soon(B, 0, 1, 0, TOLD, true), 1);
        cases.is("Promise 21: soon, downward: of one AGE", alike.soon(B, 0, 1, 0, DOWNWARD, true), 1);
        int[] up = {1, -2, 1, -2};
        int[] down = {-2, 1, 1, -2};
        for (int law = TOLD; law <= NOBODY; law++) {
            OnlyUpward two = Due.village("place l; person a 5; person b 6; thing t 4;");
            cases.is("Promise 21: soon, one year older, LAW " + law, two.soon(B, 0, 1, 0, law, true), up[law]);
            cases.is("Promise 21: soon, one year younger, LAW " + law, two.soon(A, 0, 2, 0, law, true), down[law]);
            OnlyUpward told = Due.village("place l; person a 5; person b 6; thing t 4; say if 6 <= mine;");
            cases.is("Promise 21: soon, a LAW is told, upward, LAW " + law, told.soon(B, 0, 1, 0, law, true), law == BOTH ? 1 : -2);
            cases.is("Promise 21: soon, a LAW is told, downward, LAW " + law, told.soon(A, 0, 2, 0, law, true), law == NOBODY ? -2 : 1);
            OnlyUpward apart = Due.village("place l; place m; person a 5; person b 5; thing t 4; at b m 0 23;");
            cases.is("Promise 21: soon, never at one PLACE, LAW " + law, apart.soon(B, 0, 1, 0, law, false), -2);
            OnlyUpward alone = Due.village("place l; place m; thin l m; person a 5; person b 5; thing t 4; at b m 0 23;");
            cases.is("Promise 21: soon, EARSHOT but nobody to say it to, LAW " + law, alone.soon(B, 0, 1, 0, law, true), -2);
            cases.is("Promise 21: soon, nobody but himself to say it to, LAW " + law, alone.soon(A, 0, 2, 0, law, true), -2);
        }
        OnlyUpward birth = Due.village("place l; person a 5; person b 5 birth 10; thing t 4;");
        cases.is("Promise 21: soon, downward until the HOUR of a birth", birth.soon(B, 0, 1, 9, DOWNWARD, true), 10);
        cases.is("Promise 21: soon, downward from the HOUR of a birth on", birth.soon(B, 0, 1, 10, DOWNWARD, true), -2);
        cases.is("Promise 21: soon, as told until the HOUR of a birth", birth.soon(A, 0, 2, 9, TOLD, true), 10);
        cases.is("Promise 21: soon, as told from the HOUR of a birth on", birth.soon(A, 0, 2, 10, TOLD, true), -2);
        OnlyUpward heard = Due.village("place l; place m; thin l m; person a 5; person b 5; person c 1; thing t 4; at c m 0 23;");
        cases.is("Promise 21: soon, who overhears it", heard.soon(C, 0, 1, 0, TOLD, true), 1);
    }

    private void soonByActs() {
        OnlyUpward x = pair(3, "thing u 1; act s u 9; act r t 9;");
        cases.is("Promise 21: soon, an ACT if nobody may say it", x.soon(B, 0, 1, 3, NOBODY, false), 4);
        cases.is("Promise 21: soon, aloud without ACTS", x.soon(B, 0, 1, 3, NOBODY, true), -2);
        OnlyUpward other = pair(3, "thing u 1; act s u 9;");
        cases.is("Promise 21: soon, an ACT of another THING", other.soon(B, 0, 1, 3, NOBODY, false), -2);
        OnlyUpward wall = Due.village("place l; place m; thin l m; person a 5; person b 9; thing t 4; act s t 1; at b m 0 23;");
        cases.is("Promise 21: soon, an ACT is not seen behind a THIN wall", wall.soon(B, 0, 1, 0, TOLD, false), -2);
        OnlyUpward last = pair(23, "act s t 99;");
        cases.is("Promise 21: soon, an ACT in HOUR 23", last.soon(B, 0, 1, 23, NOBODY, false), 24);
    }

    private void soonByWritings() {
        OnlyUpward x = Due.village("place l; person a 5; person b 9; thing t 4;");
        cases.is("Promise 21: soon, a writing, read in the next HOUR", x.soon(B, 0, 1, 0, NOBODY, false), 2);
        cases.is("Promise 21: soon, aloud without writings", x.soon(B, 0, 1, 0, NOBODY, true), -2);
        cases.is("Promise 21: soon, a writing of HOUR 22", x.soon(B, 0, 1, 22, NOBODY, false), 24);
        cases.is("Promise 21: soon, a writing of HOUR 23", x.soon(B, 0, 1, 23, NOBODY, false), -2);
        OnlyUpward never = Due.village("place l; place m; person a 5; person b 9; thing t 4; at a m 5 23; at b m 0 4;");
        cases.is("Promise 21: soon, a writing though they never meet", never.soon(B, 0, 1, 0, TOLD, false), 6);
        cases.is("Promise 21: soon, of the last HOUR in which he was there", never.soon(B, 0, 1, 4, TOLD, false), 6);
        cases.is("Promise 21: soon, h0 behind the last HOUR in which he was there", never.soon(B, 0, 1, 5, TOLD, false), -2);
        StringBuilder ten = new StringBuilder("thing t 4; person p 5;");
        for (int i = 0; i < 6; i++) {
            char n = (char) ('a' + i);
            ten.append("place l").append(n).append(";person q").append(n).append(" 5;at q").append(n).append(" la 0 23;");
        }
        OnlyUpward last = Due.village(ten + "person z 5; at z lf 0 3; at p lf 4 23;");
        cases.is("Promise 21: soon, a writing of the last PERSON in the last PLACE", last.soon(0, 0, 128, 0, NOBODY, false), 5);
        cases.is("Promise 21: soon, what he leaves where he goes is read later", last.soon(1, 0, 128, 0, NOBODY, false), 6);
        OnlyUpward wall = Due.village("place l; place m; thin l m; person a 5; person b 9; thing t 4; at b m 0 23;");
        cases.is("Promise 21: soon, a writing is not read behind a THIN wall", wall.soon(B, 0, 1, 0, TOLD, false), -2);
    }

    private void soonHourByHour() {
        OnlyUpward row = Due.village("place l; place m; place n; person a 5; person b 6; person c 7; thing t 4; at b m 1 23; at c m 0 23;");
        cases.is("Promise 21: soon, what one comes to know in an HOUR he says in the next", row.soon(C, 0, 1, 0, TOLD, true), 2);
        cases.is("Promise 21: soon, one HOUR too late", row.soon(C, 0, 1, 1, TOLD, true), -2);
        OnlyUpward same = Due.village("place l; place m; person a 5; person b 6; person c 7; thing t 4; at b m 1 23; at c m 0 0; at c l 1 23;");
        cases.is("Promise 21: soon, by who knew it all along", same.soon(C, 0, 1, 0, TOLD, true), 2);
    }

    private void all() {
        cases.is("Promise 22: all, the last of them", pair(7, "").all(0, 1, 0, TOLD, true), 8);
        cases.is("Promise 22: all, at HOUR 24", pair(23, "").all(0, 1, 0, TOLD, true), 24);
        cases.is("Promise 22: all, one never", pair(7, "").all(0, 1, 8, TOLD, true), -2);
        cases.is("Promise 22: all, they know it at h0 0", pair(7, "").all(0, 3, 0, TOLD, true), 0);
        cases.is("Promise 22: all, they know it at h0 23", pair(7, "").all(0, 3, 23, NOBODY, true), 23);
        cases.is("Promise 22: all, from nobody", pair(7, "").all(0, 0, 0, BOTH, false), -2);
        OnlyUpward two = Due.village("place l; person a 5; person b 6; thing t 4; act s t 3;");
        int[] up = {1, -2, 1, -2};
        for (int law = TOLD; law <= NOBODY; law++) {
            cases.is("Promise 22: all, LAW " + law, two.all(0, 1, 0, law, true), up[law]);
            cases.is("Promise 22: all, by an ACT, LAW " + law, two.all(0, 1, 0, law, false), 1);
        }
        StringBuilder ten = new StringBuilder("place l; place m; thing t 4; ");
        for (int i = 0; i < 10; i++) {
            ten.append("person p").append((char) ('a' + i)).append(" 5;");
        }
        cases.is("Promise 22: all, ten of them", Due.village(ten.toString()).all(0, 512, 0, TOLD, true), 1);
        cases.is("Promise 22: all, the first one is away", Due.village(ten + "at pa m 0 23;").all(0, 512, 0, TOLD, true), -2);
        cases.is("Promise 22: all, the last one is away", Due.village(ten + "at pj m 0 22;").all(0, 1, 0, TOLD, true), 24);
    }

    // ---- promises 23 and 24

    private String cheap(OnlyUpward x, int person, int knowers, int h0) {
        StringBuilder s = new StringBuilder();
        int doings = x.cheap(person, 0, knowers, h0, 1);
        s.append(x.cheap(person, 0, knowers, h0, 0)).append(" in ").append(doings);
        for (int i = 0; i < doings; i++) {
            s.append(' ').append(x.cheapAt(person, 0, knowers, h0, i));
        }
        return s + (x.cheapAt(person, 0, knowers, h0, Math.max(0, doings)) == NONE ? "" : " and more");
    }

    private void cheapByHours() {
        cases.are("Promise 23: cheap, they meet in HOUR 0", cheap(pair(0, ""), B, 1, 0), "1 in 1 1");
        cases.are("Promise 23: cheap, they met in HOUR 0, h0 is 1", cheap(pair(0, ""), B, 1, 1), "-2 in -2");
        cases.are("Promise 23: cheap, they meet in HOUR 7, h0 is 7", cheap(pair(7, ""), B, 1, 7), "1 in 1 70001");
        cases.are("Promise 23: cheap, they met in HOUR 7, h0 is 8", cheap(pair(7, ""), B, 1, 8), "-2 in -2");
        cases.are("Promise 23: cheap, they meet in HOUR 23, by HOUR 24 at the latest", cheap(pair(23, ""), B, 1, 0), "1 in 1 230001");
        cases.are("Promise 23: cheap, h0 is 23", cheap(pair(23, ""), B, 1, 23), "1 in 1 230001");
        cases.are("Promise 23: cheap, an ACT in HOUR 23", cheap(pair(23, "act s t 99; say if 1 == 2;"), B, 1, 0), "99 in 1 231000");
        OnlyUpward one = Due.village("place l; place m; person a 5; person b 6; person c 7; thing t 4; at c m 0 22; at b m 23 23;"
                + "at b l 0 22; at c m 23 23;");
        cases.are("Promise 23: cheap, one says it in HOUR 22, the other in HOUR 23", cheap(one, C, 1, 22), "2 in 2 220001 230022");
        cases.are("Promise 23: cheap, not both in HOUR 23", cheap(one, C, 1, 23), "-2 in -2");
        OnlyUpward two = Due.village("place l; place m; person a 5; person b 6; person c 5; person d 6; person e 9; thing t 4; at c m 0 23;"
                + "at d m 0 23; at e l 0 22; at e m 23 23; say if mine + 1 == yours;");
        cases.are("Promise 23: cheap, he hears what another one is told", cheap(two, 4, 1, 3), "1 in 1 30001");
    }

    private void cheapOfNothing() {
        cases.are("Promise 23: cheap, who knows it", cheap(pair(7, ""), A, 1, 0), "0 in 0");
        cases.are("Promise 23: cheap, who knows it at HOUR 23", cheap(pair(7, ""), A, 3, 23), "0 in 0");
        cases.are("Promise 23: cheap, from nobody", cheap(pair(7, ""), A, 0, 0), "-2 in -2");
        cases.are("Promise 23: cheap, nobody may say it and there is no ACT", cheap(pair(7, "say if 1 == 2;"), B, 1, 0), "-2 in -2");
        cases.are("Promise 23: cheap, an ACT of another THING", cheap(pair(7, "say if 1 == 2; thing u 1; act s u 1;"), B, 1, 0), "-2 in -2");
        cases.are("Promise 23: cheap, no writings", cheap(Due.village("place l; place m; person a 5; person b 9; thing t 4; at a m 5 23;"
                + "at b m 0 4;"), B, 1, 0), "-2 in -2");
        cases.is("Promise 24: cheapAt, it can't be", pair(7, "").cheapAt(B, 0, 0, 0, 0), NONE);
        cases.is("Promise 24: cheapAt, who knows it", pair(7, "").cheapAt(A, 0, 1, 0, 0), NONE);
    }

    private static final String THREE = "place l; place m; person a 5; person b 6; person c 7; thing t 4; at c m 0 2; at b m 2 2;";

    /** a may say to b and b to c in their first hours; an act shows it to c later. */
    private static OnlyUpward detour(int price) {
        return Due.village(THREE + "act s t " + price + "; say if mine + 1 == yours and hour < 3;");
    }

    private void cheapByCost() {
        cases.are("Promise 23: cheap, two sayings cost less than an ACT of 3", cheap(detour(3), C, 1, 0), "2 in 2 1 20022");
        cases.are("Promise 23: cheap, an ACT of 1 costs less than two sayings", cheap(detour(1), C, 1, 0), "1 in 1 31000");
        OnlyUpward acts = pair(7, "act s t 9; act r t 8; act q t 8; say if 1 == 2;");
        cases.are("Promise 23: cheap, the ACT that costs least, the first of alike ones", cheap(acts, B, 1, 0), "8 in 1 71001");
    }

    private void cheapByCount() {
        cases.are("Promise 23: cheap, of alike COST the fewest DOINGS", cheap(detour(2), C, 1, 0), "2 in 1 31000");
    }

    private void cheapByOrder() {
        String three = "place l; person a 5; person b 6; person c 7; thing t 4;";
        OnlyUpward x = Due.village(three + "act s t 1; act r t 1;");
        cases.are("Promise 23: cheap, of alike ones the first HOUR", cheap(x, C, 1, 9), "1 in 1 90001");
        cases.are("Promise 23: cheap, SAY by the one who says it", cheap(x, C, 3, 9), "1 in 1 90001");
        cases.are("Promise 23: cheap, then the other one", cheap(x, C, 2, 9), "1 in 1 90022");
        cases.are("Promise 23: cheap, SHOW behind SAY, by the first ACT", cheap(x, A, 4, 9), "1 in 1 91040");
        cases.are("Promise 23: cheap, SAY by the second ahead of SHOW, overheard", cheap(x, A, 6, 9), "1 in 1 90022");
        OnlyUpward show = Due.village(three + "thing u 1; act q u 1; act s t 1; act r t 1; say if 1 == 2;");
        cases.are("Promise 23: cheap, SHOW by the one who shows it, then the ACT", cheap(show, A, 6, 9), "1 in 1 91021");
        OnlyUpward none = Due.village("place l; place m; person a 5; person b 6; person c 7; thing t 4; at c m 0 3; at b l 0 3;");
        cases.are("Promise 23: cheap, no DOING ahead of the one that is needed", cheap(none, C, 1, 0), "1 in 1 40001");
        OnlyUpward either = Due.village("place l; place m; place n; place o; person a 5; person b 6; person c 7; person d 9; thing t 4;"
                + "at b m 0 23; at b l 1 1; at b o 4 4; at c n 0 23; at c l 0 0; at c o 5 5; at d o 0 23;");
        cases.are("Promise 23: cheap, HOUR by HOUR: no DOING comes last, though it would be known sooner", cheap(either, 3, 1, 0),
                "2 in 2 2 50043");
    }

    /** c hears b, but not a; all are where they are all day. */
    private void cheapOneAnHour() {
        String row = "place l; place m; place n; thin l m; thin m n; person a 5; person b 6; person c 7; person d 8; person e 9; thing t 4;"
                + "at b l 0 23; at c n 0 23; at d m 0 23; at e m 0 23;";
        OnlyUpward say = Due.village(row);
        cases.are("Term III, CHEAP: SAY, and one who heard it says it in the next HOUR", cheap(say, C, 1, 22), "2 in 2 220001 230064");
        cases.are("Term III, CHEAP: SAY, but not two in one HOUR", cheap(say, C, 1, 23), "-2 in -2");
        String wall = "place l; place m; thin l m; person a 9; person b 2; person c 3; person d 9; thing t 4; at c m 0 23; act s t 4;";
        OnlyUpward show = Due.village(wall);
        cases.are("Term III, CHEAP: SHOW, and one who saw it says it in the next HOUR", cheap(show, C, 1, 22), "1 in 1 220003");
        OnlyUpward alone = Due.village(wall.replace("person d 9;", ""));
        cases.are("Term III, CHEAP: SHOW, then SAY", cheap(alone, C, 1, 22), "5 in 2 221000 230020");
        cases.are("Term III, CHEAP: SHOW and SAY not in one HOUR", cheap(alone, C, 1, 23), "-2 in -2");
        cases.are("Term III, CHEAP: SHOW in the first HOUR of all", cheap(alone, C, 1, 0), "5 in 2 1000 10020");
        OnlyUpward shows = Due.village("place l; place m; thin l m; person a 9; person b 2; person c 3; person d 2; thing t 4; act s t 4;"
                + "at d m 0 0; place n; at c n 0 23; at d n 1 1; at b n 2 2; at d m 2 23;");
        cases.are("Term III, CHEAP: what is shown is not known behind a THIN wall", cheap(shows, C, 1, 0), "5 in 2 1000 20022");
    }

    /** The one who shows it is not where the one with the ACT's number is. */
    private void cheapShownElsewhere() {
        OnlyUpward x = Due.village("place l; place m; place n; person a 9; person b 9; person c 2; person d 1; person e 3; thing t 4; act s t 4;"
                + "at b m 0 23; at c m 0 0; at c n 1 23; at e n 0 23; say if mine == 2;");
        cases.are("Promise 24: cheapAt, SHOW by the second one, then SAY by who saw it", cheap(x, 4, 2, 0), "5 in 2 1020 10044");
        OnlyUpward y = Due.village("place l; place m; place n; person a 9; person b 9; person c 2; person d 1; person e 3; thing t 4; act s t 4;"
                + "at b m 0 23; at c m 0 0; at c n 2 23; at e n 0 23; at d l 0 0; at d n 1 1; say if mine < 3;");
        cases.are("Promise 24: cheapAt, nobody else saw it", cheap(y, 4, 2, 0), "5 in 2 1020 20044");
    }

    /** Ten people of whom each meets the next one alone: nine sayings. */
    private void longestCheap() {
        StringBuilder s = new StringBuilder("place l; place m; thing t 4; ");
        StringBuilder due = new StringBuilder("9 in 9");
        for (int i = 0; i < 10; i++) {
            char n = (char) ('a' + i);
            s.append("person p").append(n).append(' ').append(i).append(';');
            s.append("at p").append(n).append(" m ").append(Math.max(0, i - 1)).append(' ').append(Math.min(8, i)).append(';');
            due.append(i < 9 ? " " + (10000 * i + 20 * i + i + 1) : "");
        }
        OnlyUpward x = Due.village(s + "say if yours == mine + 1 and hour == mine and crowd == 2;");
        cases.are("Promise 24: cheapAt, nine DOINGS, the most that can be", cheap(x, 9, 1, 0), due.toString());
        cases.are("Promise 24: cheapAt, one behind the last of nine", x.cheapAt(9, 0, 1, 0, 8) + " " + x.cheapAt(9, 0, 1, 0, 9) + " "
                + x.cheapAt(9, 0, 1, 0, -1), "80169 -1 -1");
        cases.are("Promise 23: cheap, one HOUR too late for the first of nine", cheap(x, 9, 1, 1), "-2 in -2");
        cases.are("Promise 23: cheap, from all but the last", cheap(x, 9, 511, 0), "1 in 1 80169");
        cases.are("Promise 23: cheap, from all", cheap(x, 9, 1023, 0), "0 in 0");
    }

    private void cheapSteps() {
        OnlyUpward x = detour(3);
        cases.are("Promise 24: cheapAt, i 0, the last one, one behind, below 0", x.cheapAt(C, 0, 1, 0, 0) + " " + x.cheapAt(C, 0, 1, 0, 1)
                + " " + x.cheapAt(C, 0, 1, 0, 2) + " " + x.cheapAt(C, 0, 1, 0, -1), "1 20022 -1 -1");
        cases.is("Promise 24: cheapAt, the greatest i", x.cheapAt(C, 0, 1, 0, Integer.MAX_VALUE), NONE);
        String ten = "place l; thing t 4; person a 9; person b 8; person c 7; person d 6; person e 5; person f 4; person g 3;"
                + "person h 2; person i 1; person j 0; thing u 1; act q u 1; act r u 1; act s u 1; act v u 1; act w u 1; act x t 5;";
        OnlyUpward last = Due.village(ten);
        cases.is("Promise 24: cheapAt, the last one says it to the first one", last.cheapAt(0, 0, 512, 23, 0), 230180);
        cases.is("Promise 24: cheapAt, the first one shows it by the last ACT", last.cheapAt(9, 0, 1, 23, 0), 231005);
        cases.is("Promise 24: cheapAt, the last one shows it by the last ACT", Due.village(ten + "say if 1 == 2;")
                .cheapAt(0, 0, 512, 23, 0), 231185);
        OnlyUpward anew = detour(3);
        int before = anew.cheap(C, 0, 1, 0, 0);
        Due.read(anew, THREE + "act s t 1; say if 1 == 2;");
        cases.are("Promise 23: cheap, of a new text", before + " " + anew.cheap(C, 0, 1, 0, 0), "2 1");
        OnlyUpward other = Due.village("place l; person a 5; person b 6; thing t 4; thing u 4; act s u 3; say if 1 == 2;");
        cases.are("Promise 23: cheap, one THING, then another one, then the first", other.cheap(B, 0, 1, 0, 0) + " "
                + other.cheap(B, 1, 1, 0, 0) + " " + other.cheap(B, 0, 1, 0, 0) + " " + other.cheap(A, 1, 2, 0, 0), "-2 3 -2 3");
    }

    // ---- promises 25 to 28

    private void secret() {
        String two = "place l; place m; place n; thin l m; thin m n; person a 5; person b 5; person c ";
        cases.is("Promise 25: secret, one of one AGE", Due.village(two + "5;").secret(A, 0), B);
        cases.is("Promise 25: secret, one year older", Due.village(two + "6;").secret(A, 0), B);
        cases.is("Promise 25: secret, one year younger hears", Due.village(two + "4;").secret(A, 0), -2);
        cases.is("Promise 25: secret, one year younger hears through a THIN wall", Due.village(two + "4; at c m 0 23;").secret(A, 0), -2);
        cases.is("Promise 25: secret, one year younger behind two walls", Due.village(two + "4; at c n 0 23;").secret(A, 0), B);
        OnlyUpward birth = Due.village(two + "4 birth 9;");
        cases.are("Promise 25: secret, younger until the HOUR of a birth", birth.secret(A, 8) + " " + birth.secret(A, 9), "-2 1");
        OnlyUpward mine = Due.village("place l; person a 5; person b 6; person c 6; person d 4 birth 23; at d l 0 23;");
        cases.are("Promise 25: secret, the least number, at the last HOUR", mine.secret(A, 22) + " " + mine.secret(A, 23), "-2 1");
        cases.is("Promise 25: secret, the least number is ahead of him", Due.village(two + "5;").secret(C, 23), A);
        OnlyUpward alone = Due.village("place l; place m; thin l m; person a 5; person b 5; at b m 0 23;");
        cases.is("Promise 25: secret, nobody at that PLACE", alone.secret(A, 0), -2);
        OnlyUpward law = Due.village(two + "9; say if yours == 9;");
        cases.is("Promise 25: secret, to whom one MAY", law.secret(A, 0), C);
        OnlyUpward no = Due.village(two + "9; say if 1 == 2;");
        cases.is("Promise 25: secret, one MAY to nobody", no.secret(A, 0), -2);
        OnlyUpward old = Due.village("place l; person a 9; person b 9; person c 8; say if 1 == 1;");
        cases.are("Promise 25: secret, the youngest MAY to all", old.secret(A, 0) + " " + old.secret(C, 0), "-2 0");
    }

    private void below() {
        String three = "place l; place m; place n; thin l m; person a 5; person b 4; person c 5; person d 6; person e 4; person f 4;"
                + "at e m 0 23; at f n 0 23;";
        OnlyUpward x = Due.village(three);
        cases.is("Promise 26: below, one year younger, also through a THIN wall; not alike, not older, not far", x.below(A, 0), 2 + 16);
        cases.is("Promise 26: below, the youngest", x.below(B, 0), 0);
        cases.is("Promise 26: below, the oldest", x.below(3, 23), 1 + 2 + 4 + 16);
        cases.is("Promise 26: below, one alone", x.below(5, 0), 0);
        OnlyUpward birth = Due.village("place l; person a 5; person b 5 birth 9;");
        cases.are("Promise 26: below, from the HOUR of a birth on", birth.below(B, 8) + " " + birth.below(B, 9), "0 1");
        cases.is("Promise 26: below, nowhere", Due.village("person a 5; person b 4;").below(A, 0), 0);
    }

    private void stand() {
        OnlyUpward x = Due.village("place l; place m; place n; thin l m; person a 5; person b 5; person c 5; at b m 3 3; at c n 0 23;");
        cases.is("Promise 27: stand, all of a set hear it", x.stand(0, 0, 3), 0);
        cases.is("Promise 27: stand, all but one", x.stand(0, 0, 7), 4);
        cases.is("Promise 27: stand, nobody hears it", x.stand(2, 0, 3), 3);
        cases.is("Promise 27: stand, an empty set", x.stand(2, 0, 0), 0);
        cases.is("Promise 27: stand, through a THIN wall", x.stand(0, 3, 2), 0);
        cases.is("Promise 27: stand, the other way through it", x.stand(1, 3, 1), 0);
        cases.is("Promise 27: stand, those who are not of the set do not count", x.stand(0, 0, 4), 4);
        cases.are("Promise 27: stand, the greatest set and one above it", x.stand(0, 0, 7) + " " + x.stand(0, 0, 8), "4 -1");
    }

    private void best() {
        OnlyUpward x = pair(7, "");
        cases.is("Promise 28: best, the first HOUR", x.best(A, 0, 2), 7);
        cases.is("Promise 28: best, h0 is that HOUR", x.best(A, 7, 2), 7);
        cases.is("Promise 28: best, h0 is one HOUR later", x.best(A, 8, 2), -2);
        cases.is("Promise 28: best, HOUR 0", pair(0, "").best(A, 0, 2), 0);
        cases.is("Promise 28: best, HOUR 23", pair(23, "").best(A, 0, 2), 23);
        cases.is("Promise 28: best, h0 23", pair(23, "").best(A, 23, 2), 23);
        cases.is("Promise 28: best, nobody to whom he MAY say", x.best(B, 0, 1), -2);
        cases.is("Promise 28: best, an empty set needs one to whom he MAY say, too", x.best(A, 0, 0), 7);
        cases.is("Promise 28: best, he hears himself", x.best(A, 0, 3), 7);
        cases.is("Promise 28: best, himself alone", x.best(A, 0, 1), 7);
        OnlyUpward law = pair(7, "say if hour < 7;");
        cases.is("Promise 28: best, the LAW of that HOUR", law.best(A, 0, 2), -2);
    }

    private void bestOfAll() {
        String three = "place l; place m; place n; thin l m; person a 5; person b 6; person c 1;";
        OnlyUpward wall = Due.village(three + "at c n 0 3; at c m 4 23;");
        cases.is("Promise 28: best, one of the set is behind a THIN wall", wall.best(A, 0, 4), 4);
        OnlyUpward both = Due.village(three + "at c m 0 9; at c n 10 23; at b n 0 9;");
        cases.is("Promise 28: best, all of the set, but nobody to whom he MAY say", both.best(A, 0, 4), -2);
        OnlyUpward away = Due.village(three + "at c n 0 22; at c l 23 23;");
        cases.is("Promise 28: best, all of a set of all", away.best(A, 0, 7), 23);
        cases.is("Promise 28: best, all but the one who is away", away.best(A, 0, 3), 0);
    }
}
