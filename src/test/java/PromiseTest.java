/** Each promise by hand: ordinary inputs, the edges that the document names, wrong inputs. */
public final class PromiseTest {
    private static final Due DUE = new Due();
    private static final int NONE = OnlyUpward.NONE;

    private static final String PEOPLE = "place mill; place inn; place farm; thin mill inn; person abe 70; person bea 40;"
            + "person cal 10 birth 12; person dot 40; thing gold 9; thing love 5; thing debt 9; at bea inn 0 7;"
            + "at bea farm 5 6; at dot farm 0 23; knows abe gold; knows cal love; knows dot debt;";
    private static final String VILLAGE = PEOPLE + "must bea love 3; must abe love 1; must dot gold 9;"
            + "act point gold 7; act sing love 3; task trip gold, love;";
    private static final String NOWHERE = "person a 5; person b 5; thing t 1; knows a t; act s t 1;";

    private static final int MILL = 0;
    private static final int INN = 1;
    private static final int FARM = 2;
    private static final int ABE = 0;
    private static final int BEA = 1;
    private static final int CAL = 2;
    private static final int DOT = 3;
    private static final int GOLD = 0;
    private static final int LOVE = 1;
    private static final int DEBT = 2;
    private static final int POINT = 0;
    private static final int SING = 1;

    public static void main(String[] args) {
        aNewObject();
        feedAndBack();
        readWhole();
        syntax();
        leftovers();
        room();
        roomOfTokens();
        laterFaults();
        peopleAndPlaces();
        laws();
        sayShowLeaveAsk();
        planAndReasons();
        reasonsAtEdges();
        knowing();
        writings();
        asking();
        soonAndAll();
        cheap();
        cheapHourByHour();
        cheapOrder();
        hearing();
        lostAndMissed();
        canAndTask();
        rankAndShare();
        rule();
        ruleOrder();
        days();
        daysOfThePlan();
        slots();
        counts();
        DUE.end("PromiseTest");
    }

    private static OnlyUpward village() {
        return Due.village(VILLAGE);
    }

    private static void fault(String text, int number, int place) {
        OnlyUpward x = new OnlyUpward();
        DUE.is("read of " + text, Due.read(x, text), number);
        DUE.is("place of " + text, x.place(), place);
    }

    private static void fine(String text) {
        fault(text, 0, NONE);
    }

    private static String times(int n, String before, String after) {
        StringBuilder s = new StringBuilder();
        for (int i = 0; i < n; i++) {
            s.append(before).append((char) ('a' + i)).append(after);
        }
        return s.toString();
    }

    // ---- promises 1 to 5

    private static void aNewObject() {
        OnlyUpward x = new OnlyUpward();
        for (int what = 0; what <= 12; what++) {
            DUE.is("new count " + what, x.count(what), 0);
        }
        DUE.is("new place", x.place(), NONE);
        DUE.is("new age", x.age(0, 0), NONE);
        DUE.is("new judge", x.judge(), -2);
        DUE.is("new cost", x.cost(), 0);
        DUE.is("new harm", x.harm(), 0);
        DUE.is("new restore", x.restore(0), false);
        DUE.is("new may", x.may(0, 1, 0, true), NONE);
        DUE.is("new say", x.say(0, 0, 1, 0), NONE);
        DUE.is("new day", x.day(1, 100, 0), 0);
    }

    private static void feedAndBack() {
        OnlyUpward x = new OnlyUpward();
        for (int i = 1; i <= 100; i++) {
            DUE.is("feed " + i, x.feed(0x20202020, 0x20202020, 0x20202020, 0x20202020, 0x20202020), 20 * i);
        }
        DUE.is("feed too much", x.feed(0, 0, 0, 0, 0), NONE);
        DUE.is("nothing came", x.count(11), 2000);
        DUE.is("back -1", x.back(-1), NONE);
        DUE.is("back 2001", x.back(2001), NONE);
        DUE.is("back 0", x.back(0), 2000);
        DUE.is("back 19", x.back(19), 1981);
        DUE.is("feed at 1981", x.feed(0, 0, 0, 0, 0), NONE);
        DUE.is("back 1", x.back(1), 1980);
        DUE.is("feed at 1980", x.feed(0x706c6163, 0x6520613b, 0x706c6163, 0x6520623b, 0x20202020), 2000);
        DUE.is("read of 2000 bytes", x.read(), 0);
        DUE.is("two places", x.count(0), 2);
        DUE.is("empty tape", x.back(1), NONE);
        DUE.is("back 0 of nothing", x.back(0), 0);
    }

    private static void readWhole() {
        OnlyUpward x = village();
        DUE.is("tape after read", x.count(11), 0);
        x.say(0, CAL, ABE, LOVE);
        x.hold(1);
        DUE.is("faulty read", Due.read(x, "place a; place a;"), 3);
        DUE.is("its place", x.place(), 15);
        DUE.is("tape is empty", x.count(11), 0);
        DUE.is("village stays", x.count(1), 4);
        DUE.is("plan stays", x.count(10), 1);
        DUE.is("slots stay", x.count(12), 1);
        DUE.is("the plan's course stays", x.when(ABE, LOVE), 1);
        DUE.is("read in its place", Due.read(x, "place\t\n\r a;person b 3;"), 0);
        DUE.is("no place of a fault", x.place(), NONE);
        DUE.is("new people", x.count(1), 1);
        DUE.is("no things", x.count(2), 0);
        DUE.is("no doings", x.count(10), 0);
        DUE.is("no slots", x.count(12), 0);
        DUE.is("restore after read", x.restore(1), false);
        DUE.is("read nothing", x.read(), 0);
        DUE.is("nobody", x.count(1), 0);
    }

    private static void syntax() {
        fine("place abcdefgh;");
        fine("person a 0099;");
        fine("person a1birth 2;person b1;");
        fault("place a", 1, 7);
        fault("place a  ", 1, 9);
        fault("place 5;", 1, 6);
        fault("place if;", 1, 6);
        fault("place abcdefghi;", 1, 6);
        fault("person a 12345;", 1, 9);
        fault("place A;", 1, 6);
        fault("place a;#", 1, 8);
        fault("place a;" + (char) 160, 1, 8);
        fault("place a;" + (char) 0, 1, 8);
        fault("place" + (char) 11 + "a;", 1, 5);
        fault("a;", 1, 0);
        fault("birth;", 1, 0);
        fault(";", 1, 0);
        fault("person a birth 3;", 1, 9);
        fault("person a 3 birth;", 1, 16);
        fault("person a 3 4;", 1, 11);
        fault("task t;", 1, 6);
        fault("task t a b;", 1, 9);
        fault("task t a,;", 1, 9);
        fault("say 1 == 1;", 1, 4);
        fault("say if 1 = 1;", 1, 9);
        fault("say if 1 ! = 1;", 1, 9);
        fault("say if 1 === 1;", 1, 11);
        fault("say if 1 == 1 == 1;", 1, 14);
        fault("say if (1 == 1);", 1, 10);
        fault("say if 1;", 1, 8);
        fault("say if 1 == 1", 1, 13);
        fault("say if 1 and 2 == 2;", 1, 9);
        fault("say if 1 == 1 and;", 1, 17);
        fault("say if not 1 == not 1;", 1, 16);
        fault("say if (not 1) == 1;", 1, 8);
        fault("say if 1 + == 1;", 1, 11);
        fault("say if 1 == 1);", 1, 13);
        fault("say if (1 == 1;", 1, 10);
        fault("say if - 1 == 1;", 1, 7);
        fault("say if 1 > 1;", 1, 9);
        fault("say if age == 1;", 1, 7);
        fault("say if 1 == 1 or or 1 == 1;", 1, 17);
        fine("ask if not not mine+yours*hour/crowd-1<=(1)and 1!=2 or 2<3;");
    }

    /** What was on the tape behind its end, or in a faulty text, is not read. */
    private static void leftovers() {
        String[] texts = {"say if 1 ==", "place abcdefghi", "person a 12345", "place a ;"};
        int[] numbers = {1, 1, 1, 1};
        int[] places = {9, 14, 13, 8};
        for (int i = 0; i < texts.length; i++) {
            OnlyUpward x = new OnlyUpward();
            Due.feed(x, texts[i]);
            x.back(1);
            DUE.is("all but the last of " + texts[i], x.read(), numbers[i]);
            DUE.is("its place", x.place(), places[i]);
        }
        fault("say if 1 ==", 1, 11);
        OnlyUpward y = new OnlyUpward();
        Due.read(y, "say if not 1 == 1");
        Due.read(y, "place l; person a 9; person b 1; say if 1 == 1;");
        DUE.is("a law behind a faulty one", y.may(0, 1, 0, false), 1);
        Due.read(y, VILLAGE);
        Due.read(y, "place l; place m; person a 9; person b 1; thing t 1; at b m 0 23;");
        DUE.is("no law of an older text", y.may(0, 1, 0, false), 0);
        DUE.is("no wall of an older text", y.earshot(0, 0), 1);
        DUE.is("nobody knows what one knew in an older text", y.knows(0, 24), 0);
        DUE.is("no stay of an older text", y.where(0, 5), 0);
    }

    private static void room() {
        fault(times(7, "place ", ";"), 2, 48);
        fault(times(6, "place ", ";") + "place", 2, 48);
        fault(times(11, "person ", " 5;"), 2, 110);
        fine(times(10, "person ", " 5;"));
        fault(times(7, "thing ", " 5;"), 2, 60);
        fine(times(6, "thing ", " 5;"));
        roomOf("place a; place b;", "thin a b;", 8);
        roomOf("place a; person b 1;", "at b a 0 9;", 20);
        roomOf("thing a 1; person b 1;", "knows b a;", 12);
        roomOf("thing a 1; person b 1;", "must b a 1;", 12);
        roomOf("", "say if 1 == 1;", 4);
        roomOf("", "ask if 1 == 1;", 4);
        fine("thing t 1;" + times(6, "act a", " t 3;"));
        fault("thing t 1;" + times(7, "act a", " t 3;"), 2, 10 + 6 * 11);
        fine("thing t 1;" + times(4, "task a", " t;"));
        fault("thing t 1;" + times(5, "task a", " t;"), 2, 10 + 4 * 10);
        fine("say if ((((((1)))))) == 1;");
        fault("say if (((((((1))))))) == 1;", 2, 13);
        fine("say if (1)+(1)+(1)+(1)+(1)+(1)+(1)+(1) == 1;");
        fault("say if 1 == 1+((((((2)+(1+(", 2, 26);
    }

    private static void roomOf(String before, String tell, int most) {
        fine(before + tell.repeat(most));
        fault(before + tell.repeat(most + 1), 2, before.length() + most * tell.length());
    }

    private static void roomOfTokens() {
        String full = "say if 1 == 1" + "+1".repeat(197) + ";";
        fine(full);
        fault("say if 1 == 1" + "+1".repeat(198) + ";", 2, 408);
        fault(full + "place a;", 2, 408);
        fault(full + ")", 1, 408);
        fault(full + " abcdefghi", 1, 409);
        fault("say if " + "not ".repeat(600), 2, 7 + 4 * 398);
        fine("say if " + "not ".repeat(394) + "1<2;");
        fault("place a; person p 100;" + full, 2, 22 + 401);
    }

    private static void laterFaults() {
        fault("place a; thing a 3;", 3, 15);
        fault("person a 3; person a 3;", 3, 19);
        fault("thing a 1; act a a 1;", 3, 15);
        fault("thing a 1; task a a;", 3, 16);
        fault("thing a 1; task t a, a;", 3, 21);
        fault("thing a 1; task t a, t;", 4, 21);
        fault("thin a b;", 4, 5);
        fault("place a; thin a b;", 4, 16);
        fault("place a; person b 1; thin a b;", 4, 28);
        fault("person a 1; at a b 1 2;", 4, 17);
        fault("place l; at l l 1 2;", 4, 12);
        fault("place l; knows l l;", 4, 15);
        fault("knows p t; person p 1; thing t 1;", 4, 6);
        fault("person p 1; must p p 3;", 4, 19);
        fault("act a a 4;", 4, 6);
        fault("task t t;", 4, 7);
        fault("place a; thin a a;", 5, 16);
        fault("person a 100;", 5, 9);
        fault("person a 99 birth 24;", 5, 18);
        fine("person a 99 birth 23;");
        fault("thing t 100;", 5, 8);
        fine("thing t 99;");
        fault("place l; person p 1; at p l 5 4;", 5, 30);
        fault("place l; person p 1; at p l 24 4;", 5, 28);
        fault("place l; person p 1; at p l 5 24;", 5, 30);
        fine("place l; person p 1; at p l 5 5;");
        fault("thing t 1; act a t 0;", 5, 19);
        fault("thing t 1; act a t 100;", 5, 19);
        fine("thing t 1; act a t 99; act b t 1;");
        fault("person p 1; thing t 1; must p t 24;", 5, 32);
        fine("person p 1; thing t 1; must p t 23;");
        fault("thing a 100; place", 1, 18);
        fault("person a 100; person a 1;", 5, 9);
        fault("place a; place a; person b 100;", 3, 15);
    }

    // ---- promises 6 to 9

    private static void peopleAndPlaces() {
        OnlyUpward x = village();
        DUE.is("age ahead of birth", x.age(CAL, 11), 10);
        DUE.is("age from birth on", x.age(CAL, 12), 11);
        DUE.is("age behind birth", x.age(CAL, 23), 11);
        DUE.is("age", x.age(ABE, 0), 70);
        DUE.is("age of none", x.age(4, 0), NONE);
        DUE.is("age of -1", x.age(-1, 0), NONE);
        DUE.is("age at 24", x.age(0, 24), NONE);
        DUE.is("age at -1", x.age(0, -1), NONE);
        DUE.is("where first stay", x.where(BEA, 4), INN);
        DUE.is("where last told stay", x.where(BEA, 5), FARM);
        DUE.is("where to its end", x.where(BEA, 6), FARM);
        DUE.is("where first stay again", x.where(BEA, 7), INN);
        DUE.is("where without stay", x.where(BEA, 8), MILL);
        DUE.is("where of none", x.where(4, 0), NONE);
        DUE.is("where at 24", x.where(0, 24), NONE);
        DUE.is("nowhere", Due.village(NOWHERE).where(1, 3), -2);
        DUE.is("earshot mill", x.earshot(MILL, 0), 7);
        DUE.is("earshot inn", x.earshot(INN, 0), 7);
        DUE.is("earshot farm", x.earshot(FARM, 0), 8);
        DUE.is("earshot farm at 5", x.earshot(FARM, 5), 10);
        DUE.is("earshot mill at 5", x.earshot(MILL, 5), 5);
        DUE.is("earshot of none", x.earshot(3, 0), NONE);
        DUE.is("earshot of -1", x.earshot(-1, 0), NONE);
        DUE.is("earshot at 24", x.earshot(0, 24), NONE);
        OnlyUpward row = Due.village("place a; place b; place c; thin a b; thin c b; person p 1; person q 1; person r 1;"
                + "at q b 0 23; at r c 0 23;");
        DUE.is("walls to the next alone", row.earshot(0, 0), 3);
        DUE.is("walls both ways", row.earshot(1, 0), 7);
        DUE.is("walls from the last", row.earshot(2, 0), 6);
        DUE.is("may upward", x.may(CAL, ABE, 0, false), 1);
        DUE.is("may downward", x.may(ABE, CAL, 0, false), 0);
        DUE.is("may alike", x.may(DOT, BEA, 5, false), 1);
        DUE.is("may elsewhere", x.may(BEA, ABE, 0, false), 0);
        DUE.is("may ask", x.may(ABE, CAL, 0, true), 1);
        DUE.is("may ask elsewhere", x.may(ABE, DOT, 0, true), 0);
        DUE.is("may oneself", x.may(ABE, ABE, 0, false), NONE);
        DUE.is("may none", x.may(ABE, 4, 0, false), NONE);
        DUE.is("may of none", x.may(-1, 1, 0, true), NONE);
        DUE.is("may at 24", x.may(0, 1, 24, true), NONE);
        DUE.is("may nowhere", Due.village(NOWHERE).may(0, 1, 0, true), 0);
    }

    private static void law(String condition, int hour, int want) {
        OnlyUpward x = Due.village("place l; person a 30; person b 50 birth 20; say if " + condition + ";");
        DUE.is("say if " + condition, x.may(0, 1, hour, false), want);
        DUE.is("ask without law " + condition, x.may(0, 1, hour, true), 1);
        OnlyUpward y = Due.village("place l; person a 30; person b 50 birth 20; ask if " + condition + ";");
        DUE.is("ask if " + condition, y.may(0, 1, hour, true), want);
        DUE.is("say without law " + condition, y.may(1, 0, hour, false), 0);
    }

    private static void laws() {
        law("mine == 30", 0, 1);
        law("yours == 50", 0, 1);
        law("yours == 51", 20, 1);
        law("hour == 7", 7, 1);
        law("hour == 7", 8, 0);
        law("crowd == 2", 0, 1);
        law("mine + yours * 2 == 130", 0, 1);
        law("(mine + yours) * 2 == 160", 0, 1);
        law("100 - 30 - 20 == 50", 0, 1);
        law("100 / 7 / 2 == 7", 0, 1);
        law("(0 - 7) / 2 == 0 - 3", 0, 1);
        law("9999*9999*9999 < 0", 0, 1);
        law("9999*9999*9999 == 0 - 5136*9999*20 - 200", 0, 0);
        law("1 / 0 == 1", 0, 0);
        law("1 / 0 != 1", 0, 0);
        law("not 1 / 0 == 1", 0, 1);
        law("not not 1 / 0 == 1", 0, 0);
        law("5 != 1 / (1 - 1)", 0, 0);
        law("1 / 0 == 1 or 1 == 1", 0, 1);
        law("1 / 0 == 1 and 1 == 1", 0, 0);
        law("1 == 1 and 1 / 0 == 1", 0, 0);
        law("1 == 2 or 1 == 1 and 1 == 2", 0, 0);
        law("1 == 1 or 1 == 1 and 1 == 2", 0, 1);
        law("1 == 2 and 1 == 1 or 1 == 1", 0, 1);
        law("not 1 == 2 and 1 == 1", 0, 1);
        law("not 1 == 1 or 1 == 1", 0, 1);
        law("1 < 1", 0, 0);
        law("1 <= 1", 0, 1);
        law("2 < 1", 0, 0);
        law("2 != 2", 0, 0);
        law("2 != 3", 0, 1);
        law("1 == 2 or 1 == 1 and 0 < 1 + 1 * (1 + 1 * (1 + 1 * (1 + 1 * (1 + 1 * (1 + 1 * (1 + 1 * 1)))))) - 7", 0, 1);
        OnlyUpward two = Due.village("place l; person a 9; person b 1; say if 1 == 2; say if hour == 3; ask if 1 == 2; ask if hour == 4;");
        DUE.is("some law of saying", two.may(0, 1, 3, false), 1);
        DUE.is("no law of saying", two.may(0, 1, 4, false), 0);
        DUE.is("some law of asking", two.may(0, 1, 4, true), 1);
        DUE.is("no law of asking", two.may(0, 1, 3, true), 0);
        OnlyUpward x = Due.village("place l; place m; thin l m; person a 1; person b 1; person c 1; person d 1;"
                + "at d m 0 23; say if crowd == 3; ask if crowd == 4;");
        DUE.is("crowd is of the place alone", x.may(0, 1, 0, false), 1);
        DUE.is("crowd is not earshot", x.may(0, 1, 0, true), 0);
    }

    // ---- promises 10 to 17

    private static void sayShowLeaveAsk() {
        OnlyUpward x = village();
        DUE.is("say", x.say(0, CAL, ABE, LOVE), 0);
        DUE.is("show", x.show(1, ABE, POINT), 1);
        DUE.is("leave", x.leave(2, CAL, LOVE), 2);
        DUE.is("ask", x.ask(3, ABE, CAL, LOVE), 3);
        DUE.is("say to oneself", x.say(0, CAL, CAL, LOVE), NONE);
        DUE.is("say at 24", x.say(24, CAL, ABE, LOVE), NONE);
        DUE.is("say at -1", x.say(-1, CAL, ABE, LOVE), NONE);
        DUE.is("say by none", x.say(0, 4, ABE, LOVE), NONE);
        DUE.is("say to none", x.say(0, CAL, -1, LOVE), NONE);
        DUE.is("say nothing", x.say(0, CAL, ABE, 3), NONE);
        DUE.is("show no act", x.show(0, ABE, 2), NONE);
        DUE.is("show act -1", x.show(0, ABE, -1), NONE);
        DUE.is("show by none", x.show(0, 4, 0), NONE);
        DUE.is("show at 24", x.show(24, ABE, 0), NONE);
        DUE.is("leave at 24", x.leave(24, ABE, 0), NONE);
        DUE.is("leave by none", x.leave(0, -1, 0), NONE);
        DUE.is("leave nothing", x.leave(0, ABE, 3), NONE);
        DUE.is("ask oneself", x.ask(0, ABE, ABE, 0), NONE);
        DUE.is("ask at 24", x.ask(24, ABE, BEA, 0), NONE);
        DUE.is("ask nobody", x.ask(0, ABE, 4, 0), NONE);
        DUE.is("ask for nothing", x.ask(0, ABE, BEA, -1), NONE);
        DUE.is("four doings", x.count(10), 4);
        int[][] want = {{0, 0, CAL, ABE, LOVE, 0}, {1, 1, ABE, POINT, GOLD, 0}, {2, 2, CAL, NONE, LOVE, 0},
            {3, 3, ABE, CAL, LOVE, 0}};
        for (int d = 0; d < 4; d++) {
            for (int what = 0; what < 6; what++) {
                DUE.is("doing " + d + " " + what, x.doing(d, what), want[d][what]);
            }
        }
        DUE.is("doing what 6", x.doing(0, 6), NONE);
        DUE.is("doing what -1", x.doing(0, -1), NONE);
        DUE.is("doing 4", x.doing(4, 0), NONE);
        DUE.is("doing -1", x.doing(-1, 0), NONE);
        DUE.is("cost of all four", x.cost(), 1 + 7 + 5 + 1);
        for (int i = 4; i < 30; i++) {
            DUE.is("leave " + i, x.leave(i - 4 < 24 ? i - 4 : 0, DOT, DEBT), i);
        }
        DUE.is("31st say", x.say(0, CAL, ABE, LOVE), NONE);
        DUE.is("31st show", x.show(0, ABE, POINT), NONE);
        DUE.is("31st leave", x.leave(0, ABE, GOLD), NONE);
        DUE.is("31st ask", x.ask(0, ABE, CAL, LOVE), NONE);
    }

    private static void planAndReasons() {
        OnlyUpward x = village();
        DUE.is("judge of nothing", x.judge(), -2);
        x.say(9, CAL, ABE, LOVE);
        x.say(9, CAL, BEA, LOVE);
        x.say(0, CAL, BEA, LOVE);
        x.say(1, CAL, ABE, GOLD);
        x.say(2, ABE, CAL, GOLD);
        x.show(3, BEA, POINT);
        DUE.is("done", x.doing(0, 5), 0);
        DUE.is("reason 1: a second one", x.doing(1, 5), 1);
        DUE.is("reason 2: elsewhere", x.doing(2, 5), 2);
        DUE.is("reason 3: not known", x.doing(3, 5), 3);
        DUE.is("reason 4: may not", x.doing(4, 5), 4);
        DUE.is("show what is not known", x.doing(5, 5), 3);
        DUE.is("judged by hours first", x.judge(), 2);
        DUE.is("cost of what is done", x.cost(), 1);
        DUE.is("drop 6", x.drop(6), NONE);
        DUE.is("drop -1", x.drop(-1), NONE);
        DUE.is("drop 2", x.drop(2), 5);
        DUE.is("moved up", x.doing(2, 4), GOLD);
        DUE.is("moved up too", x.doing(4, 0), 1);
        DUE.is("judge after drop", x.judge(), 2);
        DUE.is("drop 2 more", x.drop(2) + x.drop(2) + x.drop(2), 4 + 3 + 2);
        DUE.is("judge of the rest", x.judge(), 1);
        DUE.is("drop the last", x.drop(1), 1);
        DUE.is("all are done", x.judge(), -2);
        DUE.is("drop the only one", x.drop(0), 0);
        DUE.is("drop of nothing", x.drop(0), NONE);
    }

    private static void reasonsAtEdges() {
        OnlyUpward x = village();
        x.say(0, CAL, BEA, GOLD);
        x.say(0, CAL, ABE, LOVE);
        DUE.is("an earlier one that is not done bars too", x.doing(1, 5), 1);
        DUE.is("elsewhere comes ahead of not known", x.doing(0, 5), 2);
        x.say(1, ABE, CAL, LOVE);
        DUE.is("not known comes ahead of may not", x.doing(2, 5), 3);
        OnlyUpward y = village();
        y.say(0, CAL, ABE, LOVE);
        y.show(0, ABE, SING);
        y.show(1, ABE, SING);
        DUE.is("what comes to be known in the hour does not count yet", y.doing(1, 5), 3);
        DUE.is("it counts from the next hour on", y.doing(2, 5), 0);
        OnlyUpward n = Due.village(NOWHERE);
        n.say(0, 0, 1, 0);
        n.show(1, 0, 0);
        n.leave(2, 0, 0);
        n.ask(3, 1, 0, 0);
        for (int d = 0; d < 4; d++) {
            DUE.is("nowhere " + d, n.doing(d, 5), 2);
        }
        OnlyUpward law = Due.village(PEOPLE + "ask if mine < yours;");
        law.ask(0, ABE, CAL, LOVE);
        law.ask(0, CAL, ABE, GOLD);
        law.ask(1, CAL, DOT, GOLD);
        DUE.is("ask: may not", law.doing(0, 5), 4);
        DUE.is("ask: may", law.doing(1, 5), 0);
        DUE.is("ask: elsewhere", law.doing(2, 5), 2);
    }

    // ---- promises 18 to 20

    private static void knowing() {
        OnlyUpward x = village();
        x.say(0, CAL, ABE, LOVE);
        x.show(23, ABE, POINT);
        DUE.is("knows at first", x.knows(ABE, 0), 1);
        DUE.is("who is told", x.knows(ABE, 1), 3);
        DUE.is("who overhears", x.knows(BEA, 1), 2);
        DUE.is("who does not", x.knows(DOT, 24), 4);
        DUE.is("at 23", x.knows(CAL, 23), 2);
        DUE.is("at the end", x.knows(CAL, 24), 3);
        DUE.is("shown at the place", x.knows(BEA, 24), 3);
        DUE.is("knows at 25", x.knows(CAL, 25), NONE);
        DUE.is("knows at -1", x.knows(CAL, -1), NONE);
        DUE.is("knows of none", x.knows(4, 0), NONE);
        DUE.is("when at first", x.when(CAL, LOVE), 0);
        DUE.is("when told", x.when(BEA, LOVE), 1);
        DUE.is("when at the end", x.when(CAL, GOLD), 24);
        DUE.is("when never", x.when(DOT, GOLD), -2);
        DUE.is("when of none", x.when(4, 0), NONE);
        DUE.is("when of no thing", x.when(0, 3), NONE);
        OnlyUpward y = village();
        y.show(0, ABE, POINT);
        DUE.is("an act is not heard", y.when(BEA, GOLD), -2);
        DUE.is("an act is seen", y.when(CAL, GOLD), 1);
    }

    private static void writings() {
        OnlyUpward x = village();
        x.leave(3, ABE, GOLD);
        DUE.is("not in its own hour", x.when(CAL, GOLD), 5);
        DUE.is("who comes later", x.when(BEA, GOLD), 9);
        DUE.is("not through the wall", x.knows(BEA, 8), 0);
        OnlyUpward y = village();
        y.leave(23, ABE, GOLD);
        DUE.is("at the last hour nobody reads", y.knows(CAL, 24), 2);
        DUE.is("cost of a writing", y.cost(), 5);
        OnlyUpward z = village();
        z.leave(0, ABE, LOVE);
        DUE.is("a writing that is not done is not read", z.when(BEA, LOVE), -2);
    }

    private static void asking() {
        OnlyUpward x = village();
        x.ask(0, ABE, CAL, LOVE);
        DUE.is("it is said", x.when(ABE, LOVE), 1);
        DUE.is("it is overheard", x.when(BEA, LOVE), 1);
        DUE.is("seen by who was asked", x.seen(CAL, ABE, 1), 2);
        DUE.is("seen through the wall", x.seen(BEA, ABE, 1), 2);
        DUE.is("seen stays", x.seen(BEA, ABE, 24), 2);
        DUE.is("not seen yet", x.seen(BEA, ABE, 0), 0);
        DUE.is("not of who was asked", x.seen(ABE, CAL, 24), 0);
        DUE.is("not by who is far", x.seen(DOT, ABE, 24), 0);
        DUE.is("seen oneself", x.seen(ABE, ABE, 1), NONE);
        DUE.is("seen at 25", x.seen(ABE, CAL, 25), NONE);
        DUE.is("seen of none", x.seen(ABE, 4, 1), NONE);
        x.ask(1, CAL, ABE, GOLD);
        DUE.is("who may not say does not", x.when(CAL, GOLD), -2);
        DUE.is("yet it is seen", x.seen(ABE, CAL, 2), 1);
        x.ask(2, ABE, CAL, GOLD);
        DUE.is("who knows it is not seen as one who does not", x.seen(CAL, ABE, 24), 2);
        DUE.is("but it is said if known", x.knows(BEA, 24), 2);
        DUE.is("an ask is done all the same", x.doing(2, 5), 0);
        x.ask(3, CAL, ABE, LOVE);
        DUE.is("who knows asks", x.doing(3, 5), 0);
        DUE.is("and is not seen", x.seen(ABE, CAL, 24), 1);
        x.ask(4, ABE, CAL, DEBT);
        DUE.is("nobody knows it", x.when(ABE, DEBT), -2);
        DUE.is("he does not know that too", x.seen(CAL, ABE, 5), 2 + 4);
        DUE.is("cost of asks", x.cost(), 5);
    }

    // ---- promises 21 to 24

    private static void soonAndAll() {
        OnlyUpward x = village();
        DUE.is("soon overheard", x.soon(BEA, LOVE, 4, 0, 0, true), 1);
        DUE.is("soon over two", x.soon(DOT, LOVE, 4, 0, 0, true), 6);
        DUE.is("soon too late", x.soon(DOT, LOVE, 4, 7, 0, true), -2);
        DUE.is("soon by law never", x.soon(DOT, GOLD, 1, 0, 0, true), -2);
        DUE.is("soon by an act", x.soon(DOT, GOLD, 1, 0, 0, false), 6);
        DUE.is("soon downward", x.soon(CAL, GOLD, 1, 0, 1, true), 1);
        DUE.is("soon downward is not upward", x.soon(ABE, LOVE, 4, 0, 1, true), -2);
        DUE.is("soon downward over two", x.soon(DOT, GOLD, 1, 0, 1, true), 6);
        DUE.is("soon both ways", x.soon(ABE, LOVE, 4, 0, 2, true), 1);
        DUE.is("soon without law, by act or writing", x.soon(BEA, GOLD, 1, 0, 3, false), 9);
        DUE.is("soon without law, aloud", x.soon(BEA, GOLD, 1, 0, 3, true), -2);
        DUE.is("soon at the last hour", x.soon(BEA, LOVE, 4, 23, 0, true), 24);
        DUE.is("soon for who knows", x.soon(CAL, LOVE, 4, 9, 0, true), 9);
        DUE.is("soon from nobody", x.soon(CAL, LOVE, 0, 0, 0, false), -2);
        DUE.is("soon of none", x.soon(4, 0, 1, 0, 0, true), NONE);
        DUE.is("soon of no thing", x.soon(0, 3, 1, 0, 0, true), NONE);
        DUE.is("soon from none", x.soon(0, 0, 16, 0, 0, true), NONE);
        DUE.is("soon from -1", x.soon(0, 0, -1, 0, 0, true), NONE);
        DUE.is("soon at 24", x.soon(0, 0, 1, 24, 0, true), NONE);
        DUE.is("soon by law 4", x.soon(0, 0, 1, 0, 4, true), NONE);
        DUE.is("soon by law -1", x.soon(0, 0, 1, 0, -1, true), NONE);
        DUE.is("all", x.all(LOVE, 4, 0, 0, true), 6);
        DUE.is("all never", x.all(GOLD, 1, 0, 0, true), -2);
        DUE.is("all at once", x.all(GOLD, 15, 7, 3, true), 7);
        DUE.is("all from nobody", x.all(GOLD, 0, 0, 0, false), -2);
        DUE.is("all of no thing", x.all(3, 1, 0, 0, true), NONE);
        DUE.is("all from none", x.all(0, 16, 0, 0, true), NONE);
        DUE.is("all at -1", x.all(0, 1, -1, 0, true), NONE);
        DUE.is("all by law 4", x.all(0, 1, 0, 4, true), NONE);
        OnlyUpward w = Due.village("place l; place m; person a 9; person b 1; thing t 1; at a m 5 23; at b m 0 4;");
        DUE.is("writings stay where they were left", w.soon(1, 0, 1, 0, 0, false), 6);
        DUE.is("aloud they never meet", w.soon(1, 0, 1, 0, 2, true), -2);
        DUE.is("a writing of the last hour", w.soon(1, 0, 1, 23, 0, false), -2);
        DUE.is("nobody at all", Due.village("thing t 1;").all(0, 0, 5, 0, false), 5);
    }

    private static void steps(OnlyUpward x, String call, int person, int thing, int knowers, int h0, int cost, int... steps) {
        DUE.is(call + " cost", x.cheap(person, thing, knowers, h0, 0), cost);
        DUE.is(call + " count", x.cheap(person, thing, knowers, h0, 1), steps.length);
        for (int i = 0; i < steps.length; i++) {
            DUE.is(call + " step " + i, x.cheapAt(person, thing, knowers, h0, i), steps[i]);
        }
        DUE.is(call + " no more", x.cheapAt(person, thing, knowers, h0, steps.length), NONE);
    }

    private static void cheap() {
        OnlyUpward x = village();
        steps(x, "two sayings", DOT, LOVE, 4, 0, 2, 40, 50023);
        steps(x, "an act, two sayings", DOT, GOLD, 1, 0, 9, 1000, 10040, 50023);
        steps(x, "an act alone", BEA, GOLD, 1, 0, 7, 81000);
        steps(x, "who knows", BEA, GOLD, 2, 0, 0);
        steps(x, "the last hour", BEA, LOVE, 4, 23, 1, 230040);
        DUE.is("it can't be", x.cheap(DOT, LOVE, 4, 7, 0), -2);
        DUE.is("it can't be, count", x.cheap(DOT, LOVE, 4, 7, 1), -2);
        DUE.is("no step", x.cheapAt(DOT, LOVE, 4, 7, 0), NONE);
        DUE.is("from nobody", x.cheap(DOT, LOVE, 0, 0, 0), -2);
        DUE.is("cheap what 2", x.cheap(DOT, LOVE, 4, 0, 2), NONE);
        DUE.is("cheap what -1", x.cheap(DOT, LOVE, 4, 0, -1), NONE);
        DUE.is("cheap of none", x.cheap(4, LOVE, 4, 0, 0), NONE);
        DUE.is("cheap of no thing", x.cheap(0, 3, 4, 0, 0), NONE);
        DUE.is("cheap from none", x.cheap(0, 0, 16, 0, 0), NONE);
        DUE.is("cheap at 24", x.cheap(0, 0, 1, 24, 0), NONE);
        DUE.is("cheapAt -1", x.cheapAt(DOT, LOVE, 4, 0, -1), NONE);
        DUE.is("cheapAt of none", x.cheapAt(-1, LOVE, 4, 0, 0), NONE);
        DUE.is("cheapAt at -1", x.cheapAt(DOT, LOVE, 4, -1, 0), NONE);
        Due.read(x, "place l; person a 1; person b 2; thing t 1; thing u 1; act s u 3;");
        steps(x, "a new text", 1, 0, 1, 0, 1, 1);
        steps(x, "another thing", 0, 1, 2, 2, 3, 21020);
        Due.read(x, "place l; person a 3; person b 2; thing t 1; thing u 1; act s u 3;");
        DUE.is("the same thing and person of a new text", x.cheap(0, 1, 2, 2, 0), 1);
    }

    private static void cheapHourByHour() {
        OnlyUpward say = Due.village("place l; place m; place n; thin l m; thin m n; person a 1; person b 2; person c 3; person d 4;"
                + "person e 5; thing t 1; at b l 0 23; at c n 0 23; at d m 0 23; at e m 0 23;");
        steps(say, "a said thing is said on in the next hour", 2, 0, 1, 22, 2, 220001, 230064);
        DUE.is("not in the same one", say.cheap(2, 0, 1, 23, 0), -2);
        OnlyUpward show = Due.village("place l; place m; thin l m; person a 9; person b 2; person c 3; thing t 1; act s t 4;"
                + "at c m 0 23;");
        steps(show, "a shown thing is said on in the next hour", 2, 0, 1, 22, 5, 221000, 230020);
        DUE.is("not in the same hour", show.cheap(2, 0, 1, 23, 0), -2);
    }

    private static void cheapOrder() {
        OnlyUpward alike = Due.village("place l; person a 1; person b 2; person c 3; thing t 1; act s t 1; act u t 1;");
        steps(alike, "say comes ahead of show", 2, 0, 3, 4, 1, 40001);
        steps(alike, "the least who says it", 2, 0, 2, 4, 1, 40022);
        steps(alike, "show by the first act", 0, 0, 4, 4, 1, 41040);
        OnlyUpward fewer = Due.village("place l; place m; person a 1; person b 2; person c 3; thing t 1; act s t 2;"
                + "at c m 0 2; at b m 2 2; at a l 0 23; say if mine < yours;");
        steps(fewer, "the first of alike cost and count", 2, 0, 1, 0, 1, 30001);
        OnlyUpward count = Due.village("place l; place m; person a 1; person b 2; person c 3; thing t 1; act s t 2;"
                + "at c m 0 2; at b m 2 2; say if mine + 1 == yours and hour < 3;");
        steps(count, "fewer doings of alike cost", 2, 0, 1, 0, 2, 31000);
        OnlyUpward cheaper = Due.village("place l; place m; person a 1; person b 2; person c 3; thing t 1; act s t 3;"
                + "at c m 0 2; at b m 2 2; say if mine + 1 == yours and hour < 3;");
        steps(cheaper, "cost comes ahead of count", 2, 0, 1, 0, 2, 1, 20022);
    }

    // ---- promises 25 to 28

    private static void hearing() {
        OnlyUpward x = village();
        DUE.is("secret: law", x.secret(ABE, 0), -2);
        DUE.is("secret", x.secret(CAL, 0), ABE);
        DUE.is("secret: alone", x.secret(BEA, 0), -2);
        DUE.is("secret: of one age", x.secret(BEA, 5), DOT);
        DUE.is("secret: a younger one hears", x.secret(BEA, 8), -2);
        DUE.is("secret of none", x.secret(4, 0), NONE);
        DUE.is("secret at 24", x.secret(0, 24), NONE);
        DUE.is("secret nowhere", Due.village(NOWHERE).secret(0, 0), -2);
        DUE.is("below", x.below(ABE, 0), 6);
        DUE.is("below through the wall", x.below(BEA, 0), 4);
        DUE.is("below the youngest", x.below(CAL, 0), 0);
        DUE.is("below of one age", x.below(BEA, 5), 0);
        DUE.is("below of none", x.below(-1, 0), NONE);
        DUE.is("below at 24", x.below(0, 24), NONE);
        DUE.is("below nowhere", Due.village(NOWHERE).below(0, 0), 0);
        DUE.is("stand", x.stand(MILL, 0, 15), 8);
        DUE.is("stand farm", x.stand(FARM, 5, 15), 5);
        DUE.is("stand of some", x.stand(FARM, 5, 3), 1);
        DUE.is("stand of nobody", x.stand(MILL, 0, 0), 0);
        DUE.is("stand of no set", x.stand(MILL, 0, 16), NONE);
        DUE.is("stand of -1", x.stand(MILL, 0, -1), NONE);
        DUE.is("stand at no place", x.stand(3, 0, 1), NONE);
        DUE.is("stand at 24", x.stand(0, 24, 1), NONE);
        DUE.is("best at once", x.best(CAL, 0, 3), 0);
        DUE.is("best later", x.best(BEA, 0, 8), 5);
        DUE.is("best from", x.best(BEA, 6, 8), 6);
        DUE.is("best too late", x.best(BEA, 7, 8), -2);
        DUE.is("best: somebody must be there", x.best(BEA, 0, 1), 8);
        DUE.is("best: one must be let", x.best(ABE, 0, 0), -2);
        DUE.is("best of no set", x.best(ABE, 0, 16), NONE);
        DUE.is("best of none", x.best(4, 0, 0), NONE);
        DUE.is("best at 24", x.best(0, 24, 0), NONE);
    }

    // ---- promises 29 to 36

    private static void lostAndMissed() {
        OnlyUpward x = village();
        DUE.is("lost", x.lost(ABE, 0), 1);
        DUE.is("lost of who knows nothing", x.lost(BEA, 24), 0);
        DUE.is("before", x.before(DOT, 0), DEBT);
        DUE.is("before: nothing", x.before(BEA, 0), -2);
        DUE.is("missed, all", x.missed(NONE), 3);
        DUE.is("missed 0", x.missed(0), 0);
        DUE.is("missed 2", x.missed(2), 2);
        DUE.is("missed 3", x.missed(3), NONE);
        DUE.is("missed -2", x.missed(-2), NONE);
        DUE.is("harm", x.harm(), 19);
        x.say(1, CAL, ABE, LOVE);
        DUE.is("lost until it is told", x.lost(CAL, 1), 2);
        DUE.is("lost no more", x.lost(CAL, 2), 0);
        DUE.is("known too late", x.missed(NONE), 2);
        DUE.is("who misses it", x.missed(0), 1);
        DUE.is("who misses it then", x.missed(1), 2);
        DUE.is("harm of those", x.harm(), 14);
        x.drop(0);
        x.say(0, CAL, ABE, LOVE);
        DUE.is("known in time", x.missed(0), 2);
        DUE.is("harm of one", x.harm(), 9);
        DUE.is("lost at 25", x.lost(ABE, 25), NONE);
        DUE.is("lost of none", x.lost(4, 0), NONE);
        DUE.is("before at 25", x.before(ABE, 25), NONE);
        DUE.is("before of none", x.before(-1, 0), NONE);
        OnlyUpward y = Due.village("person a 1; thing s 3; thing t 9; thing u 9; thing w 0; must a w 0; must a t 0; must a s 0;"
                + "must a s 0; knows a s; knows a u; knows a t; knows a w;");
        DUE.is("of most worth, the first", y.before(0, 24), 1);
        DUE.is("known at first by hour 0", y.missed(NONE), 0);
    }

    private static void canAndTask() {
        OnlyUpward x = village();
        DUE.is("can", x.can(0), 3);
        DUE.is("bound", x.can(1), 0);
        DUE.is("can what 2", x.can(2), NONE);
        DUE.is("can what -1", x.can(-1), NONE);
        OnlyUpward y = Due.village(PEOPLE + "act point gold 7; must dot gold 6; must dot gold 5; must abe debt 9;"
                + "must abe debt 8; must bea love 1;");
        DUE.is("can some", y.can(0), 3);
        DUE.is("bound of the others", y.can(1), 18);
        DUE.is("task", x.task(0, ABE), 1);
        DUE.is("task's latest", x.task(0, BEA), 2);
        DUE.is("task far away", x.task(0, DOT), 6);
        DUE.is("task of none", x.task(0, 4), NONE);
        DUE.is("no task", x.task(1, 0), NONE);
        DUE.is("task -1", x.task(-1, 0), NONE);
        OnlyUpward z = Due.village(PEOPLE + "thing air 1; task t gold, air; task u love;");
        DUE.is("task never", z.task(0, ABE), -2);
        DUE.is("task of one thing", z.task(1, CAL), 0);
    }

    private static void ranks(OnlyUpward x, int hour, int... people) {
        for (int i = 0; i < people.length; i++) {
            DUE.is("rank " + hour + " " + i, x.rank(hour, i), people[i]);
        }
    }

    private static void rankAndShare() {
        OnlyUpward x = village();
        ranks(x, 0, ABE, DOT, CAL, BEA);
        x.say(0, CAL, ABE, LOVE);
        ranks(x, 0, ABE, DOT, CAL, BEA);
        ranks(x, 1, ABE, BEA, DOT, CAL);
        DUE.is("rank 4", x.rank(0, 4), NONE);
        DUE.is("rank -1", x.rank(0, -1), NONE);
        DUE.is("rank at 25", x.rank(25, 0), NONE);
        DUE.is("rank at -1", x.rank(-1, 0), NONE);
        OnlyUpward y = Due.village("person a 10 birth 12; person b 11 birth 23; thing t 1; knows b t; thing u 1; knows a u;");
        ranks(y, 11, 1, 0);
        ranks(y, 12, 0, 1);
        ranks(y, 24, 1, 0);
        DUE.is("share of the oldest", x.share(0, 1, 0), 1);
        DUE.is("share of two", x.share(0, 2, 0), 1);
        DUE.is("share of three", x.share(0, 3, 0), 2);
        DUE.is("share of more than there are", x.share(0, 10, 0), 3);
        DUE.is("share of all", x.share(0, 0, 1), 3);
        DUE.is("share later", x.share(1, 2, 0), 3);
        DUE.is("share of none", x.share(24, 0, 0), 0);
        DUE.is("share of all later", x.share(24, 0, 1), 5);
        DUE.is("share of 11", x.share(0, 11, 0), NONE);
        DUE.is("share of -1", x.share(0, -1, 1), NONE);
        DUE.is("share at 25", x.share(25, 1, 0), NONE);
        DUE.is("share what 2", x.share(0, 1, 2), NONE);
        OnlyUpward z = Due.village("person a 10 birth 12; person b 11; person c 10 birth 0; thing t 1; knows b t;");
        DUE.is("age at hour 0, of alike ones the first", z.share(24, 1, 0), 1);
        DUE.is("a birth at hour 0 counts", Due.village("person a 10; person b 10 birth 0; thing t 1; knows b t;").share(0, 1, 0), 1);
    }

    // ---- promises 37 and 38

    private static void rule() {
        OnlyUpward x = village();
        x.leave(0, ABE, GOLD);
        DUE.is("rule's harm", x.rule(0), 9);
        DUE.is("rule's cost", x.rule(1), 1);
        DUE.is("rule's doings", x.rule(2), 1);
        DUE.is("rule what 3", x.rule(3), NONE);
        DUE.is("rule what -1", x.rule(-1), NONE);
        DUE.is("ruled at first", x.ruled(BEA, 0), 0);
        DUE.is("ruled overheard", x.ruled(BEA, 1), 2);
        DUE.is("ruled told", x.ruled(ABE, 24), 3);
        DUE.is("ruled without the plan", x.ruled(CAL, 24), 2);
        DUE.is("ruled at 25", x.ruled(ABE, 25), NONE);
        DUE.is("ruled of none", x.ruled(4, 0), NONE);
        Due.read(x, "place l; person a 9; person b 5; thing t 4; act s t 6; knows a t; must b t 1;");
        DUE.is("an act if one may not say", x.rule(1), 6);
        DUE.is("the act's harm", x.rule(0), 0);
        Due.read(x, "place l; person a 5; person b 9; thing t 4; act s t 6; knows a t; must b t 1;");
        DUE.is("say comes ahead of show", x.rule(1), 1);
        Due.read(x, "place l; person a 5; person b 9; thing t 4; knows a t; must b t 0;");
        DUE.is("too late for hour 0", x.rule(2), 0);
        DUE.is("its harm", x.rule(0), 4);
        Due.read(x, "place l; person a 5; person b 9; thing t 0; knows a t; must b t 3;");
        DUE.is("of no worth, not done", x.rule(2), 0);
    }

    private static void ruleOrder() {
        OnlyUpward x = Due.village("place l; person a 5; person b 5; person c 9; thing t 4; thing u 4; thing w 5; knows a t; knows b t;"
                + "knows b u; must c u 9; must c t 9; must c t 9;");
        DUE.is("twice a must is twice its worth", x.ruled(2, 1), 1 + 2);
        DUE.is("the second does not tell it again", x.rule(2), 2);
        OnlyUpward y = Due.village("place l; person a 5; person b 6; person c 9; thing t 4; thing u 4; knows a t; knows b t;"
                + "knows b u; must c u 9; must c t 9;");
        DUE.is("the oldest first: b tells t, a has nothing left", y.ruled(2, 1), 1);
        DUE.is("then u", y.ruled(2, 2), 3);
        OnlyUpward z = Due.village("place l; person a 5 birth 1; person b 5; person c 9; thing t 4; thing u 4; knows a t; knows b t;"
                + "knows b u; must c u 9; must c t 9; at c l 0 23; place m; at c m 0 0;");
        DUE.is("age at that hour: a first", z.ruled(2, 2), 3);
    }

    // ---- promises 39 and 40

    private static void days() {
        OnlyUpward x = village();
        DUE.is("nobody is frail", x.day(1, 0, 0), 15);
        DUE.is("all are", x.day(1, 100, 0), 0);
        DUE.is("seed 1, 3", x.day(1, 3, 0), 0);
        DUE.is("seed -1, 3", x.day(-1, 3, 0), 7);
        DUE.is("seed -1, 5", x.day(-1, 5, 0), 2);
        DUE.is("seed 7, 3", x.day(7, 3, 0), 9);
        DUE.is("seed 7, 5", x.day(7, 5, 0), 1);
        DUE.is("seed 2147483647", x.day(2147483647, 5, 0), 7);
        DUE.is("gone with all", x.day(1, 100, 1), 7);
        DUE.is("gone with cal and bea", x.day(7, 3, 1), 2);
        DUE.is("gone with dot", x.day(-1, 3, 1), 4);
        DUE.is("harm", x.day(1, 0, 2), 19);
        DUE.is("frail -1", x.day(1, -1, 0), NONE);
        DUE.is("frail 101", x.day(1, 101, 0), NONE);
        DUE.is("day what 4", x.day(1, 50, 4), NONE);
        DUE.is("day what -1", x.day(1, 50, -1), NONE);
        DUE.is("kept of one", x.kept(7, 1, 3, LOVE), 0);
        DUE.is("kept of one, gold", x.kept(7, 1, 3, GOLD), 1);
        DUE.is("kept over the wrap", x.kept(2147483647, 1, 5, DEBT), 0);
        DUE.is("kept of 50, nobody frail", x.kept(-20, 50, 0, LOVE), 50);
        DUE.is("kept of 50, all frail", x.kept(-20, 50, 100, LOVE), 0);
        int sum = 0;
        for (int i = 0; i < 9; i++) {
            sum += (x.day(2147483640 + i, 2, 1) & 2) == 0 ? 1 : 0;
        }
        DUE.is("kept is the sum of its days", x.kept(2147483640, 9, 2, LOVE), sum);
        DUE.is("kept 0 days", x.kept(1, 0, 5, 0), NONE);
        DUE.is("kept 51 days", x.kept(1, 51, 5, 0), NONE);
        DUE.is("kept frail 101", x.kept(1, 1, 101, 0), NONE);
        DUE.is("kept frail -1", x.kept(1, 1, -1, 0), NONE);
        DUE.is("kept no thing", x.kept(1, 1, 5, 3), NONE);
        DUE.is("kept thing -1", x.kept(1, 1, 5, -1), NONE);
        DUE.is("what nobody knew is not gone", Due.village("person a 1; thing t 1;").kept(1, 3, 100, 0), 3);
    }

    private static void daysOfThePlan() {
        OnlyUpward x = village();
        x.say(0, CAL, ABE, LOVE);
        x.say(1, CAL, ABE, LOVE);
        DUE.is("hour 0 is safe", x.day(5, 100, 3), 1);
        DUE.is("the dead keep what they knew", x.day(5, 100, 2), 9);
        DUE.is("all done", x.day(5, 0, 3), 2);
        x.drop(0);
        DUE.is("the dead do nothing", x.day(5, 100, 3), 0);
        DUE.is("musts of the dead", x.day(5, 100, 2), 19);
        OnlyUpward y = village();
        y.leave(7, CAL, LOVE);
        DUE.is("seed 7: cal writes, abe reads", y.day(7, 3, 1), 0);
        DUE.is("seed 7: done", y.day(7, 3, 3), 1);
        y.drop(0);
        y.ask(8, ABE, BEA, LOVE);
        DUE.is("seed 7: bea is dead at 7, so nowhere", y.day(7, 3, 3), 0);
        DUE.is("without lots it is done", y.doing(0, 5), 0);
        y.drop(0);
        y.leave(9, CAL, LOVE);
        DUE.is("seed 7: cal is dead from 9 on", y.day(7, 3, 3), 0);
        OnlyUpward crowd = Due.village(PEOPLE + "say if crowd == 2;");
        crowd.say(8, CAL, ABE, LOVE);
        DUE.is("a crowd of three", crowd.doing(0, 5), 4);
        DUE.is("seed 7: a crowd of two", crowd.day(7, 3, 3), 1);
        DUE.is("the plan stays as it is", crowd.judge(), 0);
    }

    // ---- promises 41 to 43

    private static void slots() {
        OnlyUpward x = village();
        DUE.is("restore of nothing", x.restore(2), false);
        DUE.is("hold 3", x.hold(3), false);
        DUE.is("hold -1", x.hold(-1), false);
        DUE.is("hold nothing", x.hold(0), true);
        x.say(0, CAL, ABE, LOVE);
        x.leave(1, CAL, LOVE);
        DUE.is("hold two", x.hold(2), true);
        DUE.is("slots", x.count(12), 2);
        x.drop(0);
        x.show(3, ABE, POINT);
        DUE.is("restore", x.restore(2), true);
        DUE.is("two doings", x.count(10), 2);
        DUE.is("the first", x.doing(0, 0), 0);
        DUE.is("the second", x.doing(1, 0), 2);
        DUE.is("by it", x.when(BEA, LOVE), 1);
        x.drop(1);
        DUE.is("the slot stays", x.restore(2), true);
        DUE.is("two doings again", x.count(10), 2);
        DUE.is("restore 1", x.restore(1), false);
        DUE.is("restore 3", x.restore(3), false);
        DUE.is("restore -1", x.restore(-1), false);
        DUE.is("nothing happens", x.count(10), 2);
        DUE.is("restore an empty plan", x.restore(0), true);
        DUE.is("no doings", x.count(10), 0);
        DUE.is("nothing is known by it", x.when(BEA, LOVE), -2);
        DUE.is("hold over it", x.hold(2), true);
        DUE.is("slots still", x.count(12), 2);
        x.restore(2);
        DUE.is("it held no doings", x.count(10), 0);
    }

    private static void counts() {
        OnlyUpward x = Due.village(VILLAGE + "act hum debt 99; task all gold, love, debt; say if 1 == 1; say if 1 == 2; ask if 1 == 1;");
        x.say(0, 0, 1, 0);
        x.hold(0);
        Due.feed(x, "abc");
        int[] want = {3, 4, 3, 1, 3, 3, 3, 2, 2, 1, 1, 3, 1};
        for (int what = 0; what < want.length; what++) {
            DUE.is("count " + what, x.count(what), want[what]);
        }
        int[][] others = {{20, 9}, {21, 5}, {22, 9}, {23, NONE}, {30, 2}, {31, 3}, {32, NONE}, {40, 7}, {41, 3}, {42, 99},
            {43, NONE}, {13, NONE}, {19, NONE}, {-1, NONE}, {29, NONE}, {39, NONE}, {50, NONE}, {Integer.MIN_VALUE, NONE},
            {Integer.MAX_VALUE, NONE}};
        for (int[] one : others) {
            DUE.is("count " + one[0], x.count(one[0]), one[1]);
        }
    }
}
