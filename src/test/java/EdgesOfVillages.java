/** Where PEOPLE are, EARSHOT, MAY: the first half of Term II, promises 6 to 9. */
final class EdgesOfVillages {
    private final Cases cases;

    private EdgesOfVillages(Cases cases) {
        this.cases = cases;
    }

    static void look(Cases cases) {
        EdgesOfVillages edges = new EdgesOfVillages(cases);
        edges.numbers();
        edges.numbersWhenFull();
        edges.ages();
        edges.stays();
        edges.lastToldStay();
        edges.nowhere();
        edges.earshot();
        edges.walls();
        edges.mayWithoutLaws();
        edges.someLaw();
        edges.vars();
        edges.crowds();
        edges.wraps();
        edges.divisions();
        edges.divisionsByZero();
        edges.comparisons();
        edges.comparisonsTogether();
        edges.precedence();
    }

    private void numbers() {
        OnlyUpward x = Due.village("person a 1; place l; thing t 5; person b 2; place m; thing u 6; act d u 4;"
                + "at b m 0 23; act c t 3; task k u; must b u 1; person e 3; task j t, u; must a t 2; knows e t; place n; at e n 0 23;");
        x.show(0, 2, 0);
        x.show(1, 2, 1);
        cases.are("Term I, numbered from 0 on as they stand: PEOPLE", x.age(0, 0) + " " + x.age(1, 0) + " " + x.age(2, 0), "1 2 3");
        cases.are("Term I, numbered from 0 on as they stand: PLACES", x.where(0, 0) + " " + x.where(1, 0) + " " + x.where(2, 0), "0 1 2");
        cases.are("Term I, numbered from 0 on as they stand: THINGS", x.count(20) + " " + x.count(21) + " " + x.knows(2, 0), "5 6 1");
        cases.are("Term I, numbered from 0 on as they stand: ACTS", x.count(40) + " " + x.count(41) + " " + x.doing(0, 4) + " " + x.doing(1, 4)
                + " " + x.doing(0, 5) + " " + x.doing(1, 5), "4 3 1 0 3 0");
        cases.are("Term I, numbered from 0 on as they stand: TASKS", x.count(30) + " " + x.count(31), "1 2");
        cases.are("Term I, numbered from 0 on as they stand: MUSTS", x.missed(0) + " " + x.missed(1) + " " + x.harm(), "0 1 11");
    }

    /** All people ahead of all places and things, and the other way about. */
    private void numbersWhenFull() {
        StringBuilder people = new StringBuilder();
        StringBuilder others = new StringBuilder();
        for (int i = 0; i < 10; i++) {
            char n = (char) ('a' + i);
            people.append("person p").append(n).append(" 5;");
            others.append(i < 6 ? "place l" + n + ";thing t" + n + " 7;act a" + n + " t" + n + " 9;" : "");
        }
        String stays = "at pj lf 0 23;knows pj tf;must pj tf 0;must pi tf 0;";
        for (String text : new String[] {people.toString() + others + stays, others.toString() + people + stays}) {
            OnlyUpward x = Due.village(text);
            cases.are("Term I, the last of all: " + text.substring(0, 8), x.where(9, 0) + " " + x.where(8, 0) + " " + x.earshot(5, 0) + " "
                    + x.earshot(0, 0) + " " + x.knows(9, 0) + " " + x.count(25) + " " + x.count(45) + " " + x.missed(0) + " " + x.show(0, 9, 5)
                    + " " + x.doing(0, 4) + " " + x.doing(0, 5), "5 0 512 511 32 7 9 1 0 5 0");
        }
    }

    // ---- promises 6 to 8

    private void ages() {
        OnlyUpward x = Due.village("person a 0 birth 0; person b 99 birth 23; person c 50 birth 12; person d 0; person e 99;");
        cases.is("Promise 6: age, a birth at HOUR 0 counts from the first HOUR on", x.age(0, 0), 1);
        cases.is("Promise 6: age, a birth at HOUR 23, the HOUR ahead", x.age(1, 22), 99);
        cases.is("Promise 6: age, a birth at HOUR 23 counts in the last HOUR, above 99", x.age(1, 23), 100);
        cases.is("Promise 6: age, the HOUR ahead of a birth", x.age(2, 11), 50);
        cases.is("Promise 6: age, the HOUR of a birth", x.age(2, 12), 51);
        cases.is("Promise 6: age, the HOUR behind a birth, no more than one more", x.age(2, 13), 51);
        cases.is("Promise 6: age, the last HOUR", x.age(2, 23), 51);
        cases.is("Promise 6: age, 0 without a birth", x.age(3, 23), 0);
        cases.is("Promise 6: age, 99 without a birth", x.age(4, 23), 99);
        OnlyUpward y = Due.village("person a 5 birth 3; person b 5;");
        cases.is("Promise 6: age, the birth is his alone", y.age(1, 3), 5);
    }

    private void stays() {
        String people = "place l; place m; place n; person p 1; person q 1;";
        OnlyUpward x = Due.village(people + "at p m 5 7; at q n 0 0; at q m 23 23;");
        cases.is("Promise 7: where, the HOUR ahead of a STAY", x.where(0, 4), 0);
        cases.is("Promise 7: where, the first HOUR of a STAY", x.where(0, 5), 1);
        cases.is("Promise 7: where, the last HOUR of a STAY", x.where(0, 7), 1);
        cases.is("Promise 7: where, the HOUR behind a STAY", x.where(0, 8), 0);
        cases.is("Promise 7: where, a STAY of HOUR 0 alone", x.where(1, 0), 2);
        cases.is("Promise 7: where, behind a STAY of HOUR 0 alone", x.where(1, 1), 0);
        cases.is("Promise 7: where, ahead of a STAY of HOUR 23 alone", x.where(1, 22), 0);
        cases.is("Promise 7: where, a STAY of HOUR 23 alone", x.where(1, 23), 1);
        OnlyUpward y = Due.village(people + "at p n 0 23;");
        cases.are("Promise 7: where, a STAY of the whole day", y.where(0, 0) + " " + y.where(0, 23) + " " + y.where(1, 0), "2 2 0");
        StringBuilder twenty = new StringBuilder(people);
        for (int hour = 0; hour < 20; hour++) {
            twenty.append("at q ").append(hour % 2 == 0 ? "m " : "n ").append(hour).append(' ').append(hour).append(';');
        }
        OnlyUpward z = Due.village(twenty.toString());
        StringBuilder got = new StringBuilder();
        for (int hour = 0; hour < 24; hour++) {
            got.append(z.where(1, hour));
        }
        cases.are("Promise 7: where, twenty STAYS, full", got.toString(), "121212121212121212120000");
    }

    private void lastToldStay() {
        String ahead = "place l; place m; place n; person p 1; at p m 4 10;";
        OnlyUpward within = Due.village(ahead + "at p n 6 7;");
        cases.are("Term II, STAY: the last told within another one", within.where(0, 5) + " " + within.where(0, 6) + " "
                + within.where(0, 7) + " " + within.where(0, 8), "1 2 2 1");
        OnlyUpward over = Due.village(ahead + "at p n 3 11;");
        cases.are("Term II, STAY: the last told over all of another one", over.where(0, 3) + " " + over.where(0, 4) + " "
                + over.where(0, 10) + " " + over.where(0, 11), "2 2 2 2");
        OnlyUpward same = Due.village(ahead + "at p l 4 10;");
        cases.are("Term II, STAY: the last told says PLACE 0", same.where(0, 4) + " " + same.where(0, 10), "0 0");
        OnlyUpward earlier = Due.village(ahead + "at p n 0 4;");
        cases.are("Term II, STAY: told last, though its HOURS begin ahead", earlier.where(0, 3) + " " + earlier.where(0, 4) + " "
                + earlier.where(0, 5), "2 2 1");
        OnlyUpward behind = Due.village("place l; place m; person p 1; at p m 0 23; place n; person q 1; at q n 0 23;");
        cases.are("Term II, STAY: PLACES and PEOPLE told behind a STAY", behind.where(0, 0) + " " + behind.where(1, 0), "1 2");
    }

    private void nowhere() {
        String people = "person a 5; person b 6; person c 5; thing t 1; knows a t; act s t 1; must b t 5;";
        OnlyUpward x = Due.village(people);
        cases.is("Term II, nowhere: without PLACES", x.where(0, 0), -2);
        cases.is("Term II, nowhere: at the last HOUR too", x.where(2, 23), -2);
        cases.is("Term II, nowhere: two are not at one PLACE, MAY", x.may(0, 1, 0, false), 0);
        cases.is("Term II, nowhere: two are not at one PLACE, MAY ask", x.may(0, 1, 0, true), 0);
        cases.is("Term II, nowhere: BELOW is 0", x.below(1, 0), 0);
        cases.is("Term II, nowhere: to nobody in SECRET", x.secret(0, 0), -2);
        cases.is("Term II, nowhere: no BEST PLACE", x.best(0, 0, 0), -2);
        cases.is("Term II, nowhere: SOON by all ways", x.soon(1, 0, 1, 0, 2, false), -2);
        cases.is("Term II, nowhere: SOON for who knows it", x.soon(0, 0, 1, 23, 2, false), 23);
        cases.is("Term II, nowhere: CHEAP", x.cheap(1, 0, 1, 0, 0), -2);
        cases.is("Term II, nowhere: THE RULE does nothing", x.rule(2), 0);
        OnlyUpward y = Due.village("place l;" + people);
        cases.is("Term II, nowhere: one PLACE is enough", y.where(0, 0), 0);
        cases.is("Term II, nowhere: one PLACE is enough, MAY", y.may(0, 1, 0, false), 1);
    }

    private void earshot() {
        StringBuilder ten = new StringBuilder("place l; place m; place n; thin l m;");
        for (int i = 0; i < 10; i++) {
            ten.append("person p").append((char) ('a' + i)).append(" 1;");
        }
        OnlyUpward x = Due.village(ten + "at pj m 3 3; at pa n 4 4;");
        cases.is("Promise 8: earshot, all ten", x.earshot(0, 0), 1023);
        cases.is("Promise 8: earshot, nobody there, ten behind a THIN wall", x.earshot(1, 0), 1023);
        cases.is("Promise 8: earshot, nobody there nor behind a wall", x.earshot(2, 0), 0);
        cases.is("Promise 8: earshot, nine there, one behind a THIN wall", x.earshot(0, 3), 1023);
        cases.is("Promise 8: earshot, one who is there in that HOUR alone", x.earshot(2, 4), 1);
        cases.is("Promise 8: earshot, all but one who is away in that HOUR", x.earshot(0, 4), 1022);
        cases.is("Promise 8: earshot, he is back in the next HOUR", x.earshot(0, 5), 1023);
    }

    private void walls() {
        String row = "place a; place b; place c; person p 1; person q 1; person r 1; at q b 0 23; at r c 0 23;";
        OnlyUpward x = Due.village(row + "thin b a; thin b c;");
        cases.is("Term II, EARSHOT: a THIN wall to it, told the other way about", x.earshot(0, 0), 3);
        cases.is("Term II, EARSHOT: two THIN walls", x.earshot(1, 0), 7);
        cases.is("Term II, EARSHOT: not through two walls", x.earshot(2, 0), 6);
        OnlyUpward none = Due.village(row);
        cases.are("Term II, EARSHOT: no THIN wall", none.earshot(0, 0) + " " + none.earshot(1, 0) + " " + none.earshot(2, 0), "1 2 4");
        OnlyUpward twice = Due.village(row + "thin a b; thin b a;");
        cases.are("Term II, EARSHOT: a THIN wall told twice", twice.earshot(0, 0) + " " + twice.earshot(1, 0) + " " + twice.count(3), "3 3 2");
        OnlyUpward end = Due.village("place a; place b; place c; place d; place e; place f; thin a f; person p 1; person q 1; at q f 0 23;");
        cases.are("Term II, EARSHOT: the first PLACE and the sixth", end.earshot(0, 0) + " " + end.earshot(5, 0) + " " + end.earshot(1, 0),
                "3 3 0");
    }

    // ---- promise 9

    private void mayWithoutLaws() {
        OnlyUpward x = Due.village("place l; place m; person a 5; person b 5; person c 6; person d 5 birth 4; at b m 7 7;");
        cases.is("Promise 9: may, no LAW told: of one AGE", x.may(0, 1, 0, false), 1);
        cases.is("Promise 9: may, no LAW told: one year older", x.may(0, 2, 0, false), 1);
        cases.is("Promise 9: may, no LAW told: one year younger", x.may(2, 0, 0, false), 0);
        cases.is("Promise 9: may, no LAW told: the HOUR ahead of his birth", x.may(3, 0, 3, false), 1);
        cases.is("Promise 9: may, no LAW told: the HOUR of his birth", x.may(3, 0, 4, false), 0);
        cases.is("Promise 9: may, no LAW told: the other one's birth", x.may(2, 3, 4, false), 1);
        cases.is("Promise 9: may, no LAW told: ahead of the other one's birth", x.may(2, 3, 3, false), 0);
        cases.is("Promise 9: may ask, no LAW told: always", x.may(2, 0, 0, true), 1);
        cases.is("Promise 9: may, not at one PLACE", x.may(0, 1, 7, false), 0);
        cases.is("Promise 9: may ask, not at one PLACE", x.may(0, 1, 7, true), 0);
        cases.is("Promise 9: may, at one PLACE again", x.may(0, 1, 8, false), 1);
        OnlyUpward thin = Due.village("place l; place m; thin l m; person a 5; person b 5; at b m 0 23;");
        cases.is("Promise 9: may, a THIN wall is not one PLACE", thin.may(0, 1, 0, false), 0);
        cases.is("Promise 9: may ask, a THIN wall is not one PLACE", thin.may(0, 1, 0, true), 0);
    }

    private void someLaw() {
        String people = "place l; person a 9; person b 5;";
        String[] kinds = {"say", "ask"};
        for (String kind : kinds) {
            String no = kind + " if 1 == 2;";
            boolean asks = kind.equals("ask");
            for (int one = 0; one < 4; one++) {
                OnlyUpward x = Due.village(people + no.repeat(one) + kind + " if hour == 3;" + no.repeat(3 - one));
                cases.are("Promise 9: may, of four LAWS to " + kind + " number " + one + " holds", x.may(0, 1, 3, asks) + " "
                        + x.may(0, 1, 4, asks), "1 0");
            }
            OnlyUpward none = Due.village(people + no);
            cases.is("Promise 9: may, one LAW to " + kind + " and it does not hold", none.may(1, 0, 0, asks), 0);
        }
        OnlyUpward say = Due.village(people + "say if 1 == 2;");
        cases.is("Promise 9: may, a LAW of saying is none of asking", say.may(0, 1, 0, true), 1);
        OnlyUpward ask = Due.village(people + "ask if 1 == 2;");
        cases.is("Promise 9: may, a LAW of asking is none of saying", ask.may(1, 0, 0, false), 1);
        OnlyUpward apart = Due.village("place l; place m; person a 9; person b 5; at b m 0 23; say if 1 == 1; ask if 1 == 1;");
        cases.is("Promise 9: may, a LAW that holds, but not at one PLACE", apart.may(0, 1, 0, false) + apart.may(0, 1, 0, true), 0);
    }

    /** What a law answers for one of 30 to one of 50, or 51 from HOUR 20 on. */
    private int law(String condition, int hour) {
        OnlyUpward x = Due.village("place l; person a 30; person b 50 birth 20; say if " + condition + ";");
        return x.may(0, 1, hour, false);
    }

    private void holds(String name, String condition) {
        cases.is(name + ": " + condition, law(condition, 0), 1);
    }

    private void holdsNot(String name, String condition) {
        cases.is(name + ": it is not so that " + condition, law(condition, 0), 0);
    }

    private void vars() {
        cases.is("Term II, VARS: hour at 0", law("hour == 0", 0), 1);
        cases.is("Term II, VARS: hour at 23", law("hour == 23", 23), 1);
        cases.is("Term II, VARS: mine is of the one who speaks", law("mine == 30 and yours == 50", 19), 1);
        cases.is("Term II, VARS: yours at the HOUR of a birth", law("yours == 51", 20), 1);
        OnlyUpward x = Due.village("place l; person a 30; person b 50 birth 20; ask if mine == 50 and yours == 30; ask if mine == 51;");
        cases.are("Term II, VARS: mine of the one who asks", x.may(1, 0, 0, true) + " " + x.may(0, 1, 0, true) + " "
                + x.may(1, 0, 20, true), "1 0 1");
        cases.is("Term II, VARS: an AGE of 0", Due.village("place l; person a 0; person b 0; say if mine == 0 and yours == 0;")
                .may(0, 1, 0, false), 1);
        cases.is("Term II, VARS: an AGE of 100", Due.village("place l; person a 99 birth 0; person b 0; say if mine == 100;")
                .may(0, 1, 0, false), 1);
    }

    private void crowds() {
        StringBuilder ten = new StringBuilder("place l; place m; thin l m;");
        for (int i = 0; i < 10; i++) {
            ten.append("person p").append((char) ('a' + i)).append(" 1;");
        }
        OnlyUpward all = Due.village(ten + "say if crowd == 10;");
        cases.is("Term II, VARS: a crowd of all ten", all.may(0, 9, 0, false), 1);
        OnlyUpward nine = Due.village(ten + "at pj m 5 5; say if crowd == 9; ask if crowd == 10;");
        cases.is("Term II, VARS: a crowd of nine, one is behind a THIN wall", nine.may(0, 8, 5, false), 1);
        cases.is("Term II, VARS: a crowd is not EARSHOT", nine.may(0, 8, 5, true), 0);
        cases.is("Term II, VARS: a crowd is of that HOUR", nine.may(0, 8, 6, false), 0);
        cases.is("Term II, VARS: a crowd of two", law("crowd == 2", 0), 1);
    }

    private void wraps() {
        String most = "(8192*8192*32-1)";
        String least = "(8192*8192*32)";
        holds("Term II, LAWS wrap", most + " - 1 < " + most);
        holds("Term II, LAWS wrap", "0 < " + most);
        holds("Term II, LAWS wrap", least + " < 0");
        holds("Term II, LAWS wrap", most + " + 1 == " + least);
        holds("Term II, LAWS wrap", least + " - 1 == " + most);
        holds("Term II, LAWS wrap", "0 - " + least + " == " + least);
        holds("Term II, LAWS wrap", least + " * 2 == 0");
        holds("Term II, LAWS wrap", most + " * 2 == 0 - 2");
        holds("Term II, LAWS wrap", most + " + " + most + " == 0 - 2");
        holds("Term II, LAWS wrap", least + " / (0 - 1) == " + least);
        holds("Term II, LAWS wrap", least + " * (0 - 1) == " + least);
        holds("Term II, LAWS wrap", least + " <= " + most);
        holdsNot("Term II, LAWS wrap", most + " < " + least);
        holds("Term II, LAWS wrap", "9999*9999*9999 == 9999*(9999*9999)");
        holds("Term II, LAWS wrap", "9999*9999*9999*9999 == 2*9999*9999*9999*9999 - 9999*9999*9999*9999");
        holds("Term II, LAWS wrap", "9999*9999*43 - 9999*9999*43 == 0");
        holds("Term II, LAWS wrap", "9999*9999*22 < 0");
        holds("Term II, LAWS wrap", "0 < 9999*9999*21");
    }

    private void divisions() {
        holds("Term II, LAWS, / towards 0", "7 / 2 == 3");
        holds("Term II, LAWS, / towards 0", "(0-7) / 2 == 0-3");
        holds("Term II, LAWS, / towards 0", "7 / (0-2) == 0-3");
        holds("Term II, LAWS, / towards 0", "(0-7) / (0-2) == 3");
        holds("Term II, LAWS, / towards 0", "1 / 2 == 0");
        holds("Term II, LAWS, / towards 0", "(0-1) / 2 == 0");
        holds("Term II, LAWS, / towards 0", "8 / 2 == 4");
        holds("Term II, LAWS, / towards 0", "0 / 5 == 0");
        holds("Term II, LAWS, / towards 0", "7 - 7 / 2 * 2 == 1");
    }

    private void divisionsByZero() {
        String name = "Term II, LAWS, a division by 0";
        String[] divisions = {"1 / 0", "0 / 0", "1 / (1 - 1)", "1 + 1 / 0", "0 * (1 / 0)", "(1 / 0)", "1 / (0 * (1 / 0))", "1 / (1 / 2)",
            "1 / 0 / 1", "8192*8192*32 / 0"};
        for (String division : divisions) {
            holdsNot(name, division + " == 0");
            holdsNot(name, division + " != 0");
            holdsNot(name, "0 <= " + division);
            holdsNot(name, division + " < 1");
            holds(name + ", its not", "not " + division + " == 0");
            holds(name + ", its not", "not 0 != " + division);
            holdsNot(name + ", the not of its not", "not not " + division + " == 0");
        }
        holdsNot(name + " on both sides", "1 / 0 == 1 / 0");
        holdsNot(name + " in one of two", "1 == 1 and 1 / 0 == 0");
        holdsNot(name + " in the first of two", "1 / 0 == 0 and 1 == 1");
        holds(name + ", or another one", "1 / 0 == 0 or 1 == 1");
        holds(name + ", or another one ahead", "1 == 1 or 1 / 0 == 0");
        holdsNot(name + ", or one that does not hold", "1 / 0 == 0 or 1 == 2");
        holds(name + ", its not and another one", "not 1 / 0 == 0 and 1 == 1");
        holdsNot(name + ", the next LIT is another one", "not 1 / 0 == 0 and 1 == 2");
        holds(name + ", the next LIT's not is another one", "not 1 / 0 == 0 and not 1 == 2");
        cases.is(name + " that depends on the HOUR, 0", law("1 / hour == 1", 0), 0);
        cases.is(name + " that depends on the HOUR, 1", law("1 / hour == 1", 1), 1);
        OnlyUpward x = Due.village("place l; person a 5; person b 5; say if 1 / 0 == 0; say if 1 == 1;");
        cases.is(name + " is of its own LAW alone", x.may(0, 1, 0, false), 1);
        OnlyUpward y = Due.village("place l; person a 5; person b 5; ask if 1 / 0 == 0;");
        cases.is(name + " in a LAW of asking", y.may(0, 1, 0, true), 0);
    }

    private void comparisons() {
        holds("Term II, LIT", "1 == 1");
        holdsNot("Term II, LIT", "1 == 2");
        holdsNot("Term II, LIT", "1 != 1");
        holds("Term II, LIT", "1 != 2");
        holds("Term II, LIT", "1 < 2");
        holdsNot("Term II, LIT, just not", "2 < 2");
        holdsNot("Term II, LIT", "3 < 2");
        holds("Term II, LIT, just so", "2 <= 2");
        holdsNot("Term II, LIT", "3 <= 2");
        holds("Term II, LIT", "1 <= 2");
        holds("Term II, LIT", "0 - 1 < 0");
        holdsNot("Term II, LIT", "not 1 == 1");
        holds("Term II, LIT", "not 1 == 2");
        holds("Term II, LIT", "not not 1 == 1");
        holds("Term II, LIT", "not not not 1 == 2");
    }

    /** Each comparison under not, and, or. */
    private void comparisonsTogether() {
        String[] hold = {"1 == 1", "1 != 2", "1 < 2", "1 <= 2", "2 <= 2", "not 1 == 2", "not 2 != 2"};
        String[] fail = {"1 == 2", "1 != 1", "2 < 2", "2 <= 1", "3 <= 2", "not 1 == 1", "not 1 <= 1"};
        for (int i = 0; i < hold.length; i++) {
            holdsNot("Term II, LIT: not", "not " + hold[i]);
            holds("Term II, LIT: not", "not " + fail[i]);
            for (int j = 0; j < hold.length; j++) {
                holds("Term II, ALL: both", hold[i] + " and " + hold[j]);
                holdsNot("Term II, ALL: the first", hold[i] + " and " + fail[j]);
                holdsNot("Term II, ALL: the second", fail[i] + " and " + hold[j]);
                holdsNot("Term II, COND: none", fail[i] + " or " + fail[j]);
                holds("Term II, COND: the first", hold[i] + " or " + fail[j]);
                holds("Term II, COND: the second", fail[i] + " or " + hold[j]);
                holds("Term II, COND: both", hold[i] + " or " + hold[j]);
            }
        }
    }

    private void precedence() {
        holds("Term II, COND", "2 + 3 * 4 == 14");
        holds("Term II, COND", "2 * 3 + 4 == 10");
        holds("Term II, COND", "(2 + 3) * 4 == 20");
        holds("Term II, COND", "8 - 4 - 2 == 2");
        holds("Term II, COND", "8 - (4 - 2) == 6");
        holds("Term II, COND", "64 / 4 / 4 == 4");
        holds("Term II, COND", "64 / (4 / 4) == 64");
        holds("Term II, COND", "6 / 4 * 2 == 2");
        holds("Term II, COND", "8 - 4 + 2 == 6");
        holds("Term II, COND", "9 - 8 / 4 - 1 == 6");
        holds("Term II, COND", "((((((1))))) + 1) == 2");
        holds("Term II, COND", "1 == 1 or 1 == 1 and 1 == 2");
        holds("Term II, COND", "1 == 2 and 1 == 1 or 1 == 1");
        holdsNot("Term II, COND", "1 == 2 or 1 == 1 and 1 == 2");
        holdsNot("Term II, COND", "1 == 2 and 1 == 2 or 1 == 2");
        holdsNot("Term II, COND", "1 == 1 and 1 == 1 and 1 == 2");
        holds("Term II, COND", "1 == 2 or 1 == 2 or 1 == 1");
        holdsNot("Term II, COND", "not 1 == 1 and 1 == 1");
        holdsNot("Term II, COND", "not 1 == 1 and 1 == 2");
        holds("Term II, COND", "not 1 == 1 or 1 == 1");
        holds("Term II, COND, all that can wait at once", "1 == 2 or 1 == 1 and not 1 == 1 + 2 * (1 + 2 * (1 + 2 * (1 + 2 * (1 + 2 * (1 + 2 * (1 + 2 * 3))))))");
    }
}
