import java.util.function.IntFunction;

/** The grammar and the FAULTS of a text: the rest of Term I. */
final class EdgesOfFaults {
    private static final int NONE = Cases.NONE;
    private static final int SYNTAX = 1;
    private static final int ROOM = 2;
    private static final int TWICE = 3;
    private static final int NAME = 4;
    private static final int WRONG = 5;
    /** All that can be told, as TOKENS. */
    private static final String[] TELLS = {"place a ;", "person p 1 ;", "person p 1 birth 2 ;", "thing t 1 ;", "thin a b ;",
        "at p a 1 2 ;", "knows p t ;", "must p t 1 ;", "act c t 1 ;", "task k t ;", "task k t , u , v ;",
        "say if mine == 1 ;", "ask if not not ( 1 ) + ( yours - 2 ) * 3 / hour < 2 or 1 <= crowd and 1 != 2 ;"};

    private static final String NAME_SIGN = "x";
    private static final String INT_SIGN = "7";
    private static final String[] TOKENS = ("place person thing thin at knows must act task say ask birth if or and not mine yours hour crowd "
            + "x 7 ; , + - * / == != < <= ( )").split(" ");
    private static final String RICH = "place l; place m; thin l m; person a 5 birth 1; person b 4; person c 9; thing t 1; thing u 2;"
            + "at b m 0 23; at c m 3 9; knows b t; knows b u; must a t 3; must c u 5; act s t 3; task k t, u;"
            + "say if 1 == 1; say if 2 == 2; ask if 1 == 2; ask if not 1 < 2 or (mine + 1) * 2 == 3;";
    private static final String PLAIN = "place l; place m; person a 5; person b 4; person c 5; thing t 1;";
    private static final String LAWFUL = PLAIN + "say if not 1 == 2 and (mine + 1) * 2 == 12; ask if not mine == 4; say if not 1 == 1;";
    private static final String NOWHERE = "person a 5; person b 4; person c 9; thing t 1; knows b t; must a t 3; act s t 3;";

    private final Cases cases;

    private EdgesOfFaults(Cases cases) {
        this.cases = cases;
    }

    static void look(Cases cases) {
        EdgesOfFaults edges = new EdgesOfFaults(cases);
        edges.tellsCutOff();
        edges.tellsSpoilt();
        edges.goesOnInTells();
        edges.goesOnInLaws();
        edges.options();
        edges.conditions();
        edges.roomOfTells();
        edges.roomTogether();
        edges.roomOfTokens();
        edges.roomWithin();
        edges.firstByPlace();
        edges.leastOfOnePlace();
        edges.twice();
        edges.twiceInTasks();
        edges.names();
        edges.toldAhead();
        edges.wrongInts();
        edges.wrongHours();
        edges.thinToItself();
        edges.nothingChanges();
        edges.inPlaceOfTheOneAhead();
        edges.textsBehindFaults();
        edges.textsBehindTexts();
        edges.reckonedAnew();
        edges.fullTextsBehindFullTexts();
        edges.manyFaultsBehindOneAnother();
    }

    private static String joined(String[] tokens, int n) {
        return String.join(" ", java.util.Arrays.copyOf(tokens, n)) + (n == 0 ? "" : " ");
    }

    private void tellsCutOff() {
        for (String tell : TELLS) {
            String[] tokens = tell.split(" ");
            for (int n = 1; n < tokens.length; n++) {
                String name = "Term I, SYNTAX: the end behind " + joined(tokens, n) + "of " + tell;
                cases.fault(name, joined(tokens, n).trim() + "^", SYNTAX);
                cases.fault(name + ", a blank behind", joined(tokens, n) + "^", SYNTAX);
            }
            cases.fault("Term I, SYNTAX: two ; behind " + tell, tell + " ^;", SYNTAX);
        }
    }

    /** A TOKEN that can't stand where another one does. */
    private static String misfit(String token, int at) {
        if (at == 0) {
            return "birth";
        }
        boolean isName = token.matches("[a-z]") && at > 0;
        return isName ? "7" : token.matches("[0-9]") ? "x" : "task";
    }

    private void tellsSpoilt() {
        for (String tell : TELLS) {
            String[] tokens = tell.split(" ");
            for (int n = 0; n < tokens.length; n++) {
                String name = joined(tokens, n) + "of " + tell;
                cases.fault("Term I, SYNTAX: no TOKEN behind " + name, joined(tokens, n) + "^# ;", SYNTAX);
                cases.fault("Term I, SYNTAX: a TOKEN that can't be behind " + name,
                        joined(tokens, n) + "^" + misfit(tokens[n], n) + " ;", SYNTAX);
            }
        }
    }

    /** All TOKENS with which a text goes on behind its beginning. */
    private void goesOn(String beginning, String due) {
        StringBuilder fits = new StringBuilder();
        for (String token : TOKENS) {
            OnlyUpward x = new OnlyUpward();
            int number = Due.read(x, beginning + " " + token);
            boolean isRefused = number == SYNTAX && x.place() == beginning.length() + 1;
            fits.append(isRefused ? "" : fits.length() == 0 ? token : " " + token);
        }
        cases.are("Term I, SYNTAX: with what a text goes on behind: " + beginning, fits.toString(), due);
    }

    private void goesOnInTells() {
        goesOn("", "place person thing thin at knows must act task say ask");
        goesOn("place a ;", "place person thing thin at knows must act task say ask");
        goesOn("person p 1 birth 2", ";");
        goesOn("person p 1", "birth ;");
        goesOn("person p 1 birth", INT_SIGN);
        goesOn("person p", INT_SIGN);
        goesOn("thing t", INT_SIGN);
        goesOn("thing t 1", ";");
        for (String tell : new String[] {"place", "person", "thing", "thin", "at", "knows", "must", "act", "task", "thin a", "at p",
            "knows p", "must p", "act c", "task k", "task k t ,"}) {
            goesOn(tell, NAME_SIGN);
        }
        for (String tell : new String[] {"at p a", "at p a 1", "must p t", "act c t"}) {
            goesOn(tell, INT_SIGN);
        }
        for (String tell : new String[] {"place a", "thin a b", "at p a 1 2", "knows p t", "must p t 1", "act c t 1"}) {
            goesOn(tell, ";");
        }
        goesOn("task k t", "; ,");
        goesOn("task k t , u", "; ,");
    }

    private void goesOnInLaws() {
        String unit = "mine yours hour crowd 7 (";
        for (String law : new String[] {"say", "ask"}) {
            goesOn(law, "if");
            for (String lit : new String[] {"", " not", " not not", " 1 == 1 and", " 1 == 1 or", " 1 == 1 and not"}) {
                goesOn(law + " if" + lit, "not " + unit);
            }
            for (String open : new String[] {" (", " ( (", " 1 +", " 1 -", " 1 *", " 1 /", " ( 1 +", " 1 ==", " 1 !=", " 1 <", " 1 <=",
                " not (", " 1 == 1 *", " not 1 <"}) {
                goesOn(law + " if" + open, unit);
            }
            for (String e : new String[] {" 1", " mine", " ( 1 )", " 1 + 1", " not 1", " 1 == 1 and 1", " 1 == 1 or not hour"}) {
                goesOn(law + " if" + e, "+ - * / == != < <=");
            }
            for (String e : new String[] {" ( 1", " ( crowd * 2", " 1 == ( 1", " ( ( 1 )", " not ( 1"}) {
                goesOn(law + " if" + e, "+ - * / )");
            }
            for (String e : new String[] {" 1 == 1", " not 1 < yours", " 1 != 1 or 1 <= ( 1 )", " ( 1 ) == 1 + 1"}) {
                goesOn(law + " if" + e, "or and ; + - * /");
            }
        }
    }

    private void options() {
        cases.fault("Term I, text: ; alone", "^;", SYNTAX);
        cases.fault("Term I, TELL: two NAMES of a place", "place a ^b;", SYNTAX);
        cases.fault("Term I, TELL: a birth without INT", "person p 1 birth ^;", SYNTAX);
        cases.fault("Term I, TELL: an INT without birth", "person p 1 ^2;", SYNTAX);
        cases.fault("Term I, TELL: two births", "person p 1 birth 2 ^birth 3;", SYNTAX);
        cases.fault("Term I, TELL: a birth of a thing", "thing t 1 ^birth 2;", SYNTAX);
        cases.fault("Term I, TELL: three INTS of a stay", "place a; person p 1; at p a 1 2 ^3;", SYNTAX);
        String six = "thing a 1;thing b 1;thing c 1;thing d 1;thing e 1;thing f 1;";
        cases.fine("Term I, TELL: a TASK of one THING", six + "task k f;");
        cases.fine("Term I, TELL: a TASK of six THINGS", six + "task k a,b,c,d,e,f;");
        cases.fault("Term I, TELL: a TASK of none", six + "task k ^;", SYNTAX);
        cases.fault("Term I, TELL: a TASK that begins with ,", six + "task k ^, a;", SYNTAX);
        cases.fault("Term I, TELL: a TASK that ends with ,", six + "task k a,^;", SYNTAX);
        cases.fault("Term I, TELL: a TASK without , between", six + "task k a ^b;", SYNTAX);
        cases.fault("Term I, TELL: a TASK with two , between", six + "task k a,^,b;", SYNTAX);
        cases.fault("Term I, TELL: a LAW without if", "say ^1 == 1;", SYNTAX);
        cases.fault("Term I, TELL: a LAW without COND", "say if ^;", SYNTAX);
        cases.fault("Term I, TELL: a LAW amid a LAW", "say if 1 == 1 ^say if 1 == 1;", SYNTAX);
    }

    private void conditions() {
        cases.fine("Term I, COND: one ALL of one LIT", "say if 1 == 1;");
        cases.fine("Term I, COND: some ALL of some LIT", "say if 1 == 1 or 1 == 1 and 1 == 1 and 1 == 1 or 1 == 1;");
        cases.fault("Term I, COND: it begins with or", "say if ^or 1 == 1;", SYNTAX);
        cases.fault("Term I, COND: it ends with or", "say if 1 == 1 or ^;", SYNTAX);
        cases.fault("Term I, ALL: it begins with and", "say if ^and 1 == 1;", SYNTAX);
        cases.fault("Term I, ALL: it ends with and", "say if 1 == 1 and ^;", SYNTAX);
        cases.fault("Term I, ALL: and or", "say if 1 == 1 and ^or 1 == 1;", SYNTAX);
        cases.fault("Term I, COND: two LITS with nothing between", "say if 1 == 1 ^1 == 1;", SYNTAX);
        cases.fine("Term I, LIT: not three times", "say if not not not 1 == 1;");
        cases.fault("Term I, LIT: not without more", "say if not ^;", SYNTAX);
        cases.fault("Term I, LIT: not behind its comparison", "say if 1 == ^not 1;", SYNTAX);
        cases.fault("Term I, LIT: not behind an E", "say if 1 ^not == 1;", SYNTAX);
        cases.fault("Term I, LIT: not behind (", "say if (^not 1) == 1;", SYNTAX);
        cases.fault("Term I, LIT: no comparison, ;", "say if 1^;", SYNTAX);
        cases.fault("Term I, LIT: no comparison, and", "say if 1 ^and 1 == 1;", SYNTAX);
        cases.fault("Term I, LIT: no comparison, or", "say if not 1 ^or 1 == 1;", SYNTAX);
        cases.fault("Term I, LIT: two comparisons", "say if 1 == 1 ^== 1;", SYNTAX);
        cases.fault("Term I, LIT: a comparison within ( )", "say if (1 ^== 1);", SYNTAX);
        cases.fault("Term I, LIT: a LIT within ( ) behind not", "say if not (1 ^== 1);", SYNTAX);
        cases.fault("Term I, LIT: and within ( )", "say if (1 ^and 1) == 1;", SYNTAX);
        cases.fault("Term I, LIT: nothing ahead of its comparison", "say if ^== 1;", SYNTAX);
        cases.fault("Term I, E: it begins with -", "say if ^-1 == 1;", SYNTAX);
        cases.fault("Term I, E: + and -", "say if 1 + ^- 1 == 1;", SYNTAX);
        cases.fault("Term I, E: it ends with +", "say if 1 + ^== 1;", SYNTAX);
        cases.fault("Term I, PART: it ends with *", "say if 1 == 1 * ^;", SYNTAX);
        cases.fault("Term I, UNIT: ( and )", "say if (^) == 1;", SYNTAX);
        cases.fault("Term I, UNIT: ( that stays open", "say if (1^;", SYNTAX);
        cases.fault("Term I, UNIT: ) too many", "say if (1)^) == 1;", SYNTAX);
        cases.fault("Term I, UNIT: ) without (", "say if 1 == 1^);", SYNTAX);
        cases.fault("Term I, UNIT: two with nothing between", "say if 1 ^mine == 1;", SYNTAX);
        cases.fault("Term I, UNIT: ( behind an INT", "say if 1 ^(1) == 1;", SYNTAX);
        cases.fault("Term I, VAR: no other NAME is one", "say if ^age == 1;", SYNTAX);
        cases.fault("Term I, VAR: no other word is one", "say if ^person == 1;", SYNTAX);
    }

    // ---- ROOM

    private void roomOfTells() {
        room("place", 6, "", i -> "place n" + letter(i) + ";");
        room("person", 10, "", i -> "person n" + letter(i) + " 1;");
        room("thing", 6, "", i -> "thing n" + letter(i) + " 1;");
        room("thin", 8, "place a;place b;", i -> "thin a b;");
        room("at", 20, "place a;person p 1;", i -> "at p a " + i + " 23;");
        room("knows", 12, "person p 1;thing t 1;", i -> "knows p t;");
        room("must", 12, "person p 1;thing t 1;", i -> "must p t " + i + ";");
        room("act", 6, "thing t 1;", i -> "act n" + letter(i) + " t 1;");
        room("task", 4, "thing t 1;", i -> "task n" + letter(i) + " t;");
        room("say", 4, "", i -> "say if 1 == " + i + ";");
        room("ask", 4, "", i -> "ask if 1 == " + i + ";");
    }

    private static char letter(int i) {
        return (char) ('a' + i);
    }

    private void room(String kind, int most, String before, IntFunction<String> tell) {
        StringBuilder full = new StringBuilder(before);
        for (int i = 0; i < most; i++) {
            full.append(tell.apply(i));
        }
        String name = "Term I, ROOM: " + kind + ", ";
        cases.fine(name + most + " are full", full.toString());
        cases.fault(name + "one more than full", full + "^" + tell.apply(most), ROOM);
        cases.fault(name + "one more than full, its first TOKEN alone", full + "^" + kind, ROOM);
        cases.fault(name + "one more than full, and SYNTAX in it", full + "^" + kind + " ; #", ROOM);
        cases.fault(name + "full, and no TOKEN behind it", full + "^" + kind + "xxxxxxxxx", SYNTAX);
        OnlyUpward x = new OnlyUpward();
        Due.read(x, full + tell.apply(most));
        cases.is(name + "one more than full begins anew with the next text", Due.read(x, full.toString()), 0);
    }

    private void roomTogether() {
        String laws = "say if 1 == 1;ask if 1 == 1;".repeat(4);
        cases.fine("Term I, ROOM: four LAWS of saying and four of asking", laws);
        cases.fault("Term I, ROOM: a fifth of asking beside four of saying", laws + "^ask if 1 == 1;", ROOM);
        String knowing = "person p 1;thing t 1;" + "knows p t;must p t 1;".repeat(12);
        cases.fine("Term I, ROOM: twelve knows and twelve musts", knowing);
        cases.fault("Term I, ROOM: a thirteenth knows beside twelve musts", knowing + "^knows p t;", ROOM);
        StringBuilder names = new StringBuilder();
        for (int i = 0; i < 10; i++) {
            char n = letter(i);
            names.append(i < 6 ? "place l" + n + ";thing t" + n + " 99;act a" + n + " t" + n + " 99;" : "");
            names.append("person p" + n + " 99 birth 23;").append(i < 4 ? "task k" + n + " ta;" : "");
        }
        OnlyUpward x = new OnlyUpward();
        cases.is("Term I, ROOM: all 32 NAMES that there can be", Due.read(x, names.toString()), 0);
        cases.are("Term I, ROOM: and all are there", x.count(0) + " " + x.count(1) + " " + x.count(2) + " " + x.count(6) + " "
                + x.count(7), "6 10 6 6 4");
        cases.fault("Term I, ROOM: the last of 32 NAMES is told already", names.toString().replace("person pj", "person ^pa"), TWICE);
    }

    private void roomOfTokens() {
        String full = "say if 1 == 1" + "+1".repeat(197) + ";";
        cases.fine("Term I, ROOM: 400 TOKENS", full);
        cases.fine("Term I, ROOM: 400 TOKENS, blanks do not count", full.replace("+", " + "));
        cases.fine("Term I, ROOM: 399 TOKENS", "place a;" + "say if 1 == 1" + "+1".repeat(195) + ";");
        cases.fault("Term I, ROOM: a 401st TOKEN that begins a TELL", full + "^place a;", ROOM);
        cases.fault("Term I, ROOM: a 401st TOKEN, the last one", "say if not 1 == 1" + "+1".repeat(197) + "^;", ROOM);
        cases.fault("Term I, ROOM: a 401st TOKEN, not the 402nd", "say if 1 == 1" + "+1".repeat(197) + "+^1;", ROOM);
        cases.fault("Term I, ROOM: a 401st TOKEN with which no text goes on", full + "^)", SYNTAX);
        cases.fault("Term I, ROOM: what is no TOKEN behind 400", full + " ^abcdefghi", SYNTAX);
        cases.fault("Term I, ROOM: the end amid a TELL behind 400", "say if not 1 == 1" + "+1".repeat(197) + "^", SYNTAX);
        cases.fault("Term I, ROOM: SYNTAX at the 400th", "say if 1 == 1" + "+1".repeat(197) + "^)place", SYNTAX);
        cases.fault("Term I, ROOM: a 401st TOKEN that is a 5th say", "say if 1 == 1;".repeat(3) + "say if 1 == 1"
                + "+1".repeat(188) + ";^say if 1 == 1;", ROOM);
        cases.fault("Term I, ROOM: many more than 401", "say if " + "not ".repeat(398) + "^" + "not ".repeat(90), ROOM);
        cases.fault("Term I, ROOM: a 401st TOKEN, a NAME of a TASK", "task k a" + ",a".repeat(198) + ",^a;", ROOM);
        cases.fault("Term I, ROOM: a 401st TOKEN, the , of a TASK", "place a;task k a" + ",a".repeat(197) + "^,a;", ROOM);
        OnlyUpward x = new OnlyUpward();
        Due.read(x, full + "place a;");
        cases.is("Term I, ROOM: a text of 401 TOKENS changes nothing", x.count(8) + x.count(0), 0);
    }

    private void roomWithin() {
        cases.fine("Term I, ROOM: six ( within one another", "say if ((((((1)))))) == 1;");
        cases.fault("Term I, ROOM: a 7th ( within one another", "say if ((((((^(1))))))) == 1;", ROOM);
        cases.fault("Term I, ROOM: a 7th ( behind the comparison", "say if 1 == ((((((^(1)))))));", ROOM);
        cases.fault("Term I, ROOM: a 7th ( and nothing more", "say if ((((((^(", ROOM);
        cases.fault("Term I, ROOM: a 7th ( amid a reckoning", "say if (1+(1*(1-(1/(1+(1+^(1))))))) == 1;", ROOM);
        cases.fine("Term I, ROOM: seven ( beside one another", "say if (1)+(1)+(1)+(1)+(1)+(1)+(1) == 7;");
        cases.fine("Term I, ROOM: six and six ( within one another", "say if ((((((1)))))) == ((((((1))))));");
        cases.fine("Term I, ROOM: a sixth ( closed and opened again", "say if (((((  (1) + (2) ))))) == 3;");
        cases.fault("Term I, ROOM: a sixth ( closed and opened, then a 7th", "say if (((((  (1) + (^(2)) ))))) == 3;", ROOM);
        cases.fine("Term I, ROOM: six ( in each LAW", "say if ((((((1)))))) == 1; ask if ((((((1)))))) == 1;");
        cases.fault("Term I, ROOM: a 7th ( that can't be", "say if ((((((1^(", SYNTAX);
    }

    // ---- which FAULT is told

    private void firstByPlace() {
        cases.fault("Term I, FAULTS: SYNTAX ahead of ROOM", "place ^; " + "place a;".repeat(7), SYNTAX);
        cases.fault("Term I, FAULTS: ROOM ahead of SYNTAX", "say if ((((((^(1 ) place", ROOM);
        cases.fault("Term I, FAULTS: SYNTAX ahead of SYNTAX", "place ^5; place 6;", SYNTAX);
        cases.fault("Term I, FAULTS: byte 0", "^5", SYNTAX);
        cases.fault("Term I, FAULTS: SYNTAX at the end comes ahead of TWICE", "place a; place a; place^", SYNTAX);
        cases.fault("Term I, FAULTS: SYNTAX at the end comes ahead of NAME", "thin a b; place^", SYNTAX);
        cases.fault("Term I, FAULTS: SYNTAX at the end comes ahead of WRONG", "person p 100; place^", SYNTAX);
        cases.fault("Term I, FAULTS: ROOM behind comes ahead of TWICE", "place a;".repeat(6) + "^place a;", ROOM);
        cases.fault("Term I, FAULTS: ROOM behind comes ahead of NAME", "thin a b;".repeat(8) + "^thin a b;", ROOM);
        cases.fault("Term I, FAULTS: ROOM behind comes ahead of WRONG", "thing t 100; say if ((((((^(1))))))) == 1;", ROOM);
        cases.fault("Term I, FAULTS: TWICE ahead of NAME", "place a; place ^a; thin a b;", TWICE);
        cases.fault("Term I, FAULTS: NAME ahead of TWICE", "place a; thin a ^b; place a;", NAME);
        cases.fault("Term I, FAULTS: TWICE ahead of WRONG", "place a; place ^a; thing t 100;", TWICE);
        cases.fault("Term I, FAULTS: WRONG ahead of TWICE", "place a; thing t ^100; place a;", WRONG);
        cases.fault("Term I, FAULTS: NAME ahead of WRONG", "thin ^a b; thing t 100;", NAME);
        cases.fault("Term I, FAULTS: WRONG ahead of NAME", "thing t ^100; thin a b;", WRONG);
        cases.fault("Term I, FAULTS: TWICE and WRONG in one TELL", "person p 1; person ^p 100 birth 24;", TWICE);
        cases.fault("Term I, FAULTS: NAME and WRONG in one TELL", "place a; at ^p a 24 1;", NAME);
        cases.fault("Term I, FAULTS: TWICE and NAME in one TELL", "place a; act ^a x 0;", TWICE);
        cases.fault("Term I, FAULTS: two NAMES in one TELL", "must ^p t 24;", NAME);
        cases.fault("Term I, FAULTS: two INTS in one TELL", "person p ^100 birth 24;", WRONG);
        cases.fault("Term I, FAULTS: two HOURS in one TELL", "place a; person p 1; at p a ^24 25;", WRONG);
    }

    private void leastOfOnePlace() {
        cases.fault("Term I, FAULTS: SYNTAX and ROOM at one place",
                "say if 1 == 1" + "+1".repeat(197) + ";^birth", SYNTAX);
        cases.fault("Term I, FAULTS: NAME, no THING, though it stands there twice", "place a; task k ^a, a;", NAME);
        cases.fault("Term I, FAULTS: TWICE at the NAME that shows itself", "thing a 1; act ^a a 0;", TWICE);
        cases.fault("Term I, FAULTS: NAME at an unknown PLACE thin to itself", "thin ^a a;", NAME);
    }

    // ---- TWICE

    private static String told(String kind, String name) {
        switch (kind) {
            case "place":
                return "place " + name + ";";
            case "act":
                return "act " + name + " own 1;";
            case "task":
                return "task " + name + " own;";
            default:
                return kind + " " + name + " 1;";
        }
    }

    private void twice() {
        String[] kinds = {"place", "person", "thing", "act", "task"};
        for (String first : kinds) {
            for (String second : kinds) {
                String text = "thing own 1;" + told(first, "n");
                cases.fault("Term I, TWICE: a NAME of " + first + ", then of " + second, text + told(second, "^n"), TWICE);
                cases.fine("Term I, TWICE: another NAME of " + first + ", then of " + second, text + told(second, "m"));
            }
        }
        cases.fault("Term I, TWICE: the very first NAME at the very last", "place a;person b 1;thing own 1;act c own 1;task d own;"
                + "place ^a;", TWICE);
    }

    private void twiceInTasks() {
        String six = "thing a 1;thing b 1;thing c 1;thing d 1;thing e 1;thing f 1;";
        cases.fault("Term I, TWICE: a THING of its TASK already, the next", six + "task k a,^a;", TWICE);
        cases.fault("Term I, TWICE: a THING of its TASK already, the seventh", six + "task k a,b,c,d,e,f,^a;", TWICE);
        cases.fault("Term I, TWICE: a THING of its TASK already, the last one", six + "task k f,a,^f;", TWICE);
        cases.fine("Term I, TWICE: a THING of another TASK", six + "task k a,b;task j b,a;");
    }

    // ---- NAME

    private void names() {
        String ahead = "place l;place m;person p 1;thing t 1;thing u 1;act c t 1;task k t;";
        String[] slots = {"thin ? m;", "thin m ?;", "at ? l 1 2;", "at p ? 1 2;", "knows ? t;", "knows p ?;", "must ? t 1;",
            "must p ? 1;", "act d ? 1;", "task j ?;", "task j u, ?;"};
        String fits = "llplptpt" + "ttt";
        for (int slot = 0; slot < slots.length; slot++) {
            for (String name : new String[] {"l", "p", "t", "c", "k", "x"}) {
                String text = ahead + slots[slot];
                if (name.charAt(0) == fits.charAt(slot)) {
                    cases.fine("Term I, NAME: " + name + " in " + slots[slot], text.replace("?", name));
                } else {
                    cases.fault("Term I, NAME: no such one, " + name + " in " + slots[slot], text.replace("?", "^" + name), NAME);
                }
            }
        }
    }

    private void toldAhead() {
        cases.fault("Term I, NAME: a PLACE told behind, thin", "place a;thin a ^b;place b;", NAME);
        cases.fault("Term I, NAME: a PERSON told behind, at", "place a;at ^p a 1 2;person p 1;", NAME);
        cases.fault("Term I, NAME: a PLACE told behind, at", "person p 1;at p ^a 1 2;place a;", NAME);
        cases.fault("Term I, NAME: a PERSON told behind, knows", "thing t 1;knows ^p t;person p 1;", NAME);
        cases.fault("Term I, NAME: a THING told behind, knows", "person p 1;knows p ^t;thing t 1;", NAME);
        cases.fault("Term I, NAME: a PERSON told behind, must", "thing t 1;must ^p t 1;person p 1;", NAME);
        cases.fault("Term I, NAME: a THING told behind, must", "person p 1;must p ^t 1;thing t 1;", NAME);
        cases.fault("Term I, NAME: a THING told behind, act", "act a ^t 1;thing t 1;", NAME);
        cases.fault("Term I, NAME: a THING told behind, task", "thing t 1;task k t,^u;thing u 1;", NAME);
        cases.fault("Term I, NAME: an ACT is no THING of itself", "act a ^a 1;", NAME);
        cases.fault("Term I, NAME: a TASK is no THING of itself", "thing t 1;task k t,^k;", NAME);
        cases.fine("Term I, NAME: told just ahead", "place a;place b;thin a b;person p 1;at p b 0 0;thing t 1;knows p t;act c t 1;");
        OnlyUpward x = Due.village("place a; thing t 1; person p 1;");
        cases.is("Term I, NAME: a NAME of the text ahead is not told", Due.read(x, "knows p t;"), NAME);
    }

    // ---- WRONG

    private void wrong(String name, String text, int least, int most) {
        cases.fine("Term I, WRONG: " + name + " " + least + ", just large enough", text.replace("?", "" + least));
        cases.fine("Term I, WRONG: " + name + " " + most + ", just small enough", text.replace("?", "" + most));
        if (least > 0) {
            cases.fault("Term I, WRONG: " + name + " " + (least - 1) + ", one too small", text.replace("?", "^" + (least - 1)), WRONG);
        }
        cases.fault("Term I, WRONG: " + name + " " + (most + 1) + ", one too large", text.replace("?", "^" + (most + 1)), WRONG);
        cases.fault("Term I, WRONG: " + name + " 9999", text.replace("?", "^9999"), WRONG);
    }

    private void wrongInts() {
        wrong("an AGE", "person p ?;", 0, 99);
        wrong("an AGE with a birth", "person p ? birth 3;", 0, 99);
        wrong("a WORTH", "thing t ?;", 0, 99);
        wrong("a COST", "thing t 0; act c t ?;", 1, 99);
        wrong("a birth's HOUR", "person p 1 birth ?;", 0, 23);
        wrong("a MUST's HOUR", "person p 1; thing t 1; must p t ?;", 0, 23);
    }

    private void wrongHours() {
        String stay = "place a; person p 1; at p a ";
        wrong("a STAY's a", stay + "? 23;", 0, 23);
        wrong("a STAY's b from 0 on", stay + "0 ?;", 0, 23);
        wrong("a STAY's b from 12 on", stay + "12 ?;", 12, 23);
        wrong("a STAY's b from 22 on", stay + "22 ?;", 22, 23);
        cases.fine("Term I, WRONG: a STAY of the last HOUR", stay + "23 23;");
        cases.fault("Term I, WRONG: b below a, the last HOUR", stay + "23 ^22;", WRONG);
        cases.fault("Term I, WRONG: b below a, the first HOUR", stay + "23 ^0;", WRONG);
        cases.fault("Term I, WRONG: a above 23 comes ahead of b below a", stay + "^24 3;", WRONG);
    }

    private void thinToItself() {
        cases.fault("Term I, WRONG: a THIN wall of a PLACE to itself", "place a; place b; thin b ^b;", WRONG);
        cases.fault("Term I, WRONG: of the first PLACE to itself", "place a; place b; thin a ^a;", WRONG);
        cases.fine("Term I, WRONG: a THIN wall to another one, twice", "place a; place b; thin a b; thin b a;");
    }

    // ---- what a text changes

    private void nothingChanges() {
        String[] faulty = {"place a; person q 1 birth;", "say if ((((((((", "thing t 5; place t;", "person q 5; must q t 3;",
            "place a; person q 5; at q a 3 2;"};
        for (int i = 0; i < faulty.length; i++) {
            OnlyUpward x = EdgesOfArguments.lived();
            x.back(x.count(11));
            OnlyUpward twin = EdgesOfArguments.lived();
            twin.back(twin.count(11));
            int fault = Due.read(x, faulty[i]);
            String place = "fault " + x.place();
            cases.are("Term I, FAULTS: a text with FAULT " + (i + 1) + " changes nothing", fault + " " + Cases.state(x),
                    (i + 1) + " " + Cases.state(twin).replaceFirst("fault -1", place));
        }
        OnlyUpward y = EdgesOfArguments.lived();
        y.back(y.count(11));
        int known = y.ruled(1, 24);
        int steps = y.cheap(1, 0, 1, 0, 1);
        Due.read(y, "place");
        cases.are("Term I, FAULTS: nor what was reckoned", y.ruled(1, 24) + " " + y.cheap(1, 0, 1, 0, 1), known + " " + steps);
    }

    private void inPlaceOfTheOneAhead() {
        OnlyUpward x = EdgesOfArguments.lived();
        x.back(x.count(11));
        OnlyUpward fresh = Due.village(EdgesOfArguments.SMALL);
        Due.read(x, EdgesOfArguments.SMALL);
        cases.are("Term I, text: the same one again, the PLAN is empty, SLOTS hold nothing", Cases.state(x), Cases.state(fresh));
        OnlyUpward y = Due.village("place l; place m; thin l m; person a 5 birth 1; person b 4; thing t 1; at b m 0 23; knows b t;"
                + "must a t 3; say if 1 == 1; ask if 1 == 2; act s t 3; task k t;");
        Due.read(y, "place l; place m; person a 5; person b 4; thing t 1;");
        cases.are("Term I, text: no walls, births, stays, LAWS, nothing known of the one ahead", y.earshot(0, 0) + " " + y.earshot(1, 0)
                + " " + y.age(0, 23) + " " + y.where(1, 0) + " " + y.may(0, 1, 0, false) + " " + y.may(1, 0, 0, true) + " "
                + y.knows(1, 24), "3 0 5 0 0 1 0");
        cases.are("Term I, text: no walls, stays, MUSTS, ACTS, TASKS, LAWS of the one ahead are told", y.count(3) + " " + y.count(4)
                + " " + y.count(5) + " " + y.count(6) + " " + y.count(7) + " " + y.count(8) + " " + y.count(9), "0 0 0 0 0 0 0");
    }

    /** What an object answers of a village of three people, by fewer than 512 calls. */
    private static String whole(OnlyUpward x) {
        StringBuilder s = new StringBuilder();
        for (int hour = 0; hour < 24; hour += 4) {
            for (int person = 0; person < 3; person++) {
                s.append(' ').append(x.age(person, hour)).append(x.where(person, hour)).append(x.knows(person, hour));
                for (int other = 0; other < 3; other++) {
                    s.append(x.may(person, other, hour, false)).append(x.may(person, other, hour, true));
                }
            }
            s.append(' ').append(x.earshot(0, hour)).append(' ').append(x.earshot(1, hour));
        }
        s.append(", musts ").append(x.missed(NONE)).append(x.harm()).append(x.can(0)).append(x.can(1));
        s.append(", rule ").append(x.rule(0)).append(x.rule(1)).append(x.rule(2)).append(x.ruled(0, 24));
        s.append(", soon ").append(x.soon(0, 0, 2, 0, 0, false)).append(x.soon(2, 0, 1, 0, 0, true));
        s.append(", cheap ").append(x.cheap(0, 0, 2, 0, 0)).append(x.cheap(2, 0, 1, 0, 0));
        return s.append(", ").append(Cases.state(x)).toString();
    }

    private void textsBehindFaults() {
        String[] faulty = {"place", "say if 1 == (1 + (2 * 3", "say if not 1", "say if 1 == 1 and not (", "say if ((((((((", "place l;", "thin l x;",
            "thing z 100;", "at a m 0 23; place l;", "person d 100;", "knows a t; place l;", "thin m l; at b l 0 23; place l;"};
        for (String fault : faulty) {
            for (String text : new String[] {PLAIN, LAWFUL, RICH}) {
                OnlyUpward x = new OnlyUpward();
                Due.read(x, RICH + fault);
                int number = Due.read(x, text);
                cases.are("Term I, text: behind a faulty one that ends with " + fault + ": " + text, number + whole(x),
                        0 + whole(Due.village(text)));
            }
        }
    }

    private void textsBehindTexts() {
        String[] texts = {RICH, PLAIN, LAWFUL, "", NOWHERE};
        for (int first = 0; first < texts.length; first++) {
            for (int second = 0; second < texts.length; second++) {
                for (String third : new String[] {PLAIN, LAWFUL, NOWHERE}) {
                    OnlyUpward x = Due.village(texts[first]);
                    Due.read(x, texts[second]);
                    Due.read(x, third);
                    cases.are("Term I, text: in place of texts " + first + " and " + second + " comes " + third, whole(x),
                            whole(Due.village(third)));
                }
            }
        }
    }

    /** What was reckoned of the text ahead is not told of the new one. */
    private void reckonedAnew() {
        OnlyUpward x = Due.village(RICH);
        x.say(0, 1, 2, 0);
        String before = x.knows(1, 24) + " " + x.harm() + " " + x.rule(2) + " " + x.cheap(2, 0, 2, 0, 0) + " " + x.soon(2, 0, 2, 0, 0, true);
        Due.read(x, PLAIN);
        cases.are("Term I, text: what was reckoned is reckoned anew", before + whole(x), "3 3 1 1 4" + whole(Due.village(PLAIN)));
        OnlyUpward y = Due.village("place l; person a 5; person b 6; thing t 4; knows a t; must b t 9;");
        int ahead = y.rule(0) * 100 + y.rule(1) * 10 + y.rule(2);
        Due.read(y, "place l; person a 5; person b 6; thing t 4; knows a t; must b t 0;");
        cases.are("Promise 37: rule, of a new text", ahead + " " + y.rule(0) + y.rule(1) + y.rule(2), "11 400");
    }

    /** What the LAWS of many texts would need together has no room in one. */
    private void fullTextsBehindFullTexts() {
        String full = "place l;person a 1;person b 2;say if mine == 3" + "-1".repeat(189) + ";";
        OnlyUpward x = new OnlyUpward();
        StringBuilder got = new StringBuilder();
        for (int texts = 0; texts < 8; texts++) {
            int number = Due.read(x, full.replace("3-", (188 + texts) + "-"));
            got.append(number).append(' ').append(x.may(0, 1, 0, false)).append(x.may(1, 0, 0, false)).append(' ');
        }
        cases.are("Term I, text: full texts one behind another, each with its LAW", got.toString(), "0 00 0 00 0 10 0 01 0 00 0 00 0 00 0 00 ");
    }

    private void manyFaultsBehindOneAnother() {
        OnlyUpward x = new OnlyUpward();
        for (int texts = 0; texts < 70; texts++) {
            Due.read(x, "say if 1 == ((((((1+");
        }
        Due.read(x, LAWFUL);
        cases.are("Term I, text: behind seventy faulty ones", whole(x), whole(Due.village(LAWFUL)));
    }
}
