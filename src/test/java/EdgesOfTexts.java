import java.util.function.Supplier;

/** The tape and TOKENS: promises 1 to 5, Term I down to the grammar. */
final class EdgesOfTexts {
    private static final int NONE = Cases.NONE;
    private static final int BLANKS = 0x20202020;
    private static final String[] WORDS = {"place", "person", "birth", "thing", "thin", "at", "knows", "must", "act",
        "task", "say", "ask", "if", "or", "and", "not", "mine", "yours", "hour", "crowd"};

    private final Cases cases;

    private EdgesOfTexts(Cases cases) {
        this.cases = cases;
    }

    static void look(Cases cases) {
        EdgesOfTexts edges = new EdgesOfTexts(cases);
        edges.newObject();
        edges.lastCall();
        edges.feed();
        edges.bytesOfFeed();
        edges.back();
        edges.read();
        edges.place();
        edges.wholeTape();
        edges.blanks();
        edges.longestTokens();
        edges.names();
        edges.wordsAsNames();
        edges.ints();
        edges.signs();
        edges.noText();
    }

    /** An object with so many blanks on the tape. */
    private static OnlyUpward tape(int bytes) {
        OnlyUpward x = new OnlyUpward();
        for (int i = 0; i < bytes; i += 20) {
            x.feed(BLANKS, BLANKS, BLANKS, BLANKS, BLANKS);
        }
        x.back((20 - bytes % 20) % 20);
        return x;
    }

    private static int feedBlanks(OnlyUpward x) {
        return x.feed(BLANKS, BLANKS, BLANKS, BLANKS, BLANKS);
    }

    private void newObject() {
        OnlyUpward x = new OnlyUpward();
        cases.are("Promise 1: nothing is told", Cases.state(x), "fault -1, counts 0 0 0 0 0 0 0 0 0 0 0 0 0"
                + " -1".repeat(18) + ", plan [] -2 0 known" + ", an empty slot".repeat(3) + ", tape 0 -1");
        OnlyUpward y = new OnlyUpward();
        cases.are("Promise 1: sums of nothing", y.harm() + " " + y.missed(NONE) + " " + y.can(0) + " " + y.can(1) + " "
                + y.rule(0) + " " + y.rule(1) + " " + y.rule(2) + " " + y.share(24, 10, 0) + " " + y.share(24, 0, 1),
                "0 0 0 0 0 0 0 0 0");
        cases.are("Promise 1: a day of nobody", y.day(0, 100, 0) + " " + y.day(0, 100, 1) + " " + y.day(0, 100, 2) + " "
                + y.day(0, 100, 3), "0 0 0 0");
        cases.is("Promise 1: an empty plan can be held", y.hold(0), true);
    }

    private void lastCall() {
        String text = "place l; person a 1; person b 2; thing t 3; knows a t;";
        OnlyUpward x = Due.village(text);
        int feedsBackAndRead = (text.length() + 19) / 20 + 2;
        for (int call = feedsBackAndRead + 1; call < 512; call++) {
            x.soon(1, 0, 1, call % 24, 0, false);
        }
        cases.is("What it is: the 512th call", x.cheap(1, 0, 1, 23, 0), 1);
    }

    private void feed() {
        cases.is("Promise 2: feed, an empty tape", feedBlanks(new OnlyUpward()), 20);
        cases.is("Promise 2: feed, one byte there", feedBlanks(tape(1)), 21);
        cases.is("Promise 2: feed, 1,960 bytes there", feedBlanks(tape(1960)), 1980);
        cases.is("Promise 2: feed, 1,979 bytes there", feedBlanks(tape(1979)), 1999);
        cases.is("Promise 2: feed, 1,980 bytes there, just full", feedBlanks(tape(1980)), 2000);
        refusedFeed("1,981 bytes there, one more than full", () -> tape(1981));
        refusedFeed("1,999 bytes there", () -> tape(1999));
        refusedFeed("2,000 bytes there, full", () -> tape(2000));
        OnlyUpward x = tape(1981);
        feedBlanks(x);
        x.back(1);
        cases.is("Promise 2: feed, refused, one byte goes, then it fits", feedBlanks(x), 2000);
        OnlyUpward y = tape(2000);
        y.read();
        cases.is("Promise 2: feed, a full tape that was read is empty", feedBlanks(y), 20);
    }

    private void refusedFeed(String name, Supplier<OnlyUpward> made) {
        cases.refused("Promise 2: feed, " + name, made, (x, a) -> x.feed(a, a, a, a, a), 0x706c6163);
    }

    /** "place a;" with its bytes in each of the twenty positions; the rest are blanks. */
    private void bytesOfFeed() {
        for (int from = 0; from <= 12; from++) {
            OnlyUpward x = new OnlyUpward();
            int[] five = Due.five(" ".repeat(from) + "place a;", 0);
            x.feed(five[0], five[1], five[2], five[3], five[4]);
            cases.is("Promise 2: feed, the highest byte first, from byte " + from, x.read() * 100 + x.count(0), 1);
        }
        for (int at = 0; at < 20; at++) {
            OnlyUpward x = new OnlyUpward();
            int[] five = Due.five(" ".repeat(at) + (char) 255, 0);
            x.feed(five[0], five[1], five[2], five[3], five[4]);
            cases.are("Promise 2: feed, byte 255 comes as byte " + at, x.read() + " " + x.place(), "1 " + at);
        }
    }

    private void back() {
        cases.is("Promise 3: back, nothing of an empty tape", new OnlyUpward().back(0), 0);
        cases.is("Promise 3: back, nothing of a full tape", tape(2000).back(0), 2000);
        cases.is("Promise 3: back, one of a full tape", tape(2000).back(1), 1999);
        cases.is("Promise 3: back, all of a full tape", tape(2000).back(2000), 0);
        cases.is("Promise 3: back, all but one", tape(20).back(19), 1);
        cases.is("Promise 3: back, all", tape(20).back(20), 0);
        int[] tooMany = {1, 2000, Integer.MAX_VALUE, -1, Integer.MIN_VALUE};
        for (int n : tooMany) {
            cases.refused("Promise 3: back, of an empty tape " + n, OnlyUpward::new, OnlyUpward::back, n);
        }
        int[] ofTwenty = {21, 2000, Integer.MAX_VALUE, -1, -20, Integer.MIN_VALUE};
        for (int n : ofTwenty) {
            cases.refused("Promise 3: back, of twenty bytes " + n, () -> tape(20), OnlyUpward::back, n);
        }
        cases.refused("Promise 3: back, 2,001 of a full tape", () -> tape(2000), OnlyUpward::back, 2001);
        OnlyUpward x = new OnlyUpward();
        Due.feed(x, "place a;#");
        x.back(1);
        Due.feed(x, "place b;");
        cases.is("Promise 3: back, the last byte goes and the next comes in its stead", x.read() * 100 + x.count(0), 2);
    }

    private void read() {
        OnlyUpward x = new OnlyUpward();
        cases.is("Promise 4: read, an empty tape", x.read(), 0);
        cases.is("Promise 4: read, the tape is empty then", x.count(11), 0);
        OnlyUpward y = new OnlyUpward();
        Due.read(y, "place");
        cases.is("Promise 4: read, the tape is empty behind a FAULT too", y.count(11), 0);
        cases.is("Promise 4: read, so what was faulty is not read again", y.read(), 0);
        OnlyUpward z = Due.village("place a;");
        Due.feed(z, "place b; place c;");
        cases.is("Promise 4: read, what is on the tape alone changes nothing", z.count(0), 1);
        z.read();
        cases.is("Promise 4: read, then it does", z.count(0), 2);
        String[] faulty = {"place", "say if ((((((( ", "place a; place a;", "thin a b;", "thing t 100;"};
        for (int i = 0; i < faulty.length; i++) {
            cases.is("Promise 4: read, the number of FAULT " + (i + 1), Due.read(new OnlyUpward(), faulty[i]), i + 1);
        }
    }

    private void place() {
        OnlyUpward x = new OnlyUpward();
        cases.is("Promise 5: place, without a read", x.place(), NONE);
        Due.feed(x, "#");
        cases.is("Promise 5: place, a FAULT that is not read yet", x.place(), NONE);
        x.read();
        cases.is("Promise 5: place, byte 0", x.place(), 0);
        Due.feed(x, "   #");
        cases.is("Promise 5: place, of the latest read, not of the tape", x.place(), 0);
        x.read();
        cases.is("Promise 5: place, of the latest of two", x.place(), 3);
        Due.read(x, " place a");
        cases.is("Promise 5: place, the text's end", x.place(), 8);
        x.read();
        cases.is("Promise 5: place, none behind a read without FAULT", x.place(), NONE);
    }

    private void wholeTape() {
        OnlyUpward x = new OnlyUpward();
        cases.is("Term I, TEXT: 2,000 bytes, the last one counts",
                Due.read(x, "place a;" + " ".repeat(1984) + "place b;") * 100 + x.count(0), 2);
        cases.fault("Term I, TEXT: 2,000 bytes, a FAULT at the last one", " ".repeat(1999) + "^#", 1);
        cases.fault("Term I, TEXT: 2,000 bytes, a FAULT at their end", " ".repeat(1993) + "place a^", 1);
        cases.fault("Term I, TEXT: blanks, then the end amid a TELL", "place a   ^", 1);
        cases.fine("Term I, TEXT: 2,000 blanks", " ".repeat(2000));
        OnlyUpward y = new OnlyUpward();
        Due.feed(y, " ".repeat(1992) + "place a;");
        cases.is("Term I, TEXT: nothing comes behind 2,000 bytes", y.feed(0, 0, 0, 0, 0), NONE);
        cases.is("Term I, TEXT: and they are read as they were", y.read() * 100 + y.count(0), 1);
    }

    private void blanks() {
        int[] blanks = {9, 10, 13, 32};
        for (int blank : blanks) {
            String b = "" + (char) blank;
            cases.fine("Term I, TOKENS: blank " + blank + " ahead, between and behind", b + "place" + b + b + "a" + b + ";" + b);
        }
        int[] others = {0, 1, 8, 11, 12, 14, 31, 33, 127, 128, 137, 138, 141, 160, 255};
        for (int other : others) {
            String o = "" + (char) other;
            cases.fault("Term I, TOKENS: byte " + other + " is no blank between", "place^" + o + "a;", 1);
            cases.fault("Term I, TOKENS: byte " + other + " is no blank ahead", "^" + o + "place a;", 1);
            cases.fault("Term I, TOKENS: byte " + other + " is no blank behind", "place a;^" + o, 1);
        }
        cases.fine("Term I, TOKENS: no blank where none is needed",
                "place a;person b1birth2;thing c3;at b a4 5;say if(1)==1and not mine<2or 3!=hour;");
        cases.fault("Term I, TOKENS: a blank parts two INTS", "place a; person b 1; at b a 1^;", 1);
        cases.fault("Term I, TOKENS: without it they are one", "place a; person b 1; at b a 12^;", 1);
    }

    private void longestTokens() {
        cases.fault("Term I, TOKENS: placea is one NAME", "^placea;", 1);
        cases.fine("Term I, TOKENS: a NAME that begins with a word", "place placea;");
        cases.fine("Term I, TOKENS: a NAME that ends with a word", "place aplace;");
        cases.fault("Term I, TOKENS: thing is not thin and g", "thin a ^thing;", 1);
        cases.fine("Term I, TOKENS: <= is one SIGN", "say if 1<=1;");
        cases.fault("Term I, TOKENS: < = are two", "say if 1< ^=1;", 1);
        cases.fault("Term I, TOKENS: = = are two", "say if 1^= =1;", 1);
        cases.fault("Term I, TOKENS: ! = are two", "say if 1^! =1;", 1);
        cases.fault("Term I, TOKENS: <== is <= and =", "say if 1<=^=1;", 1);
        cases.fault("Term I, TOKENS: === is == and =", "say if 1==^=1;", 1);
        cases.fault("Term I, TOKENS: ==== is == and ==", "say if 1==^==1;", 1);
        cases.fault("Term I, TOKENS: !== is != and =", "say if 1!=^=1;", 1);
        cases.fault("Term I, TOKENS: << is < and <", "say if 1<^<1;", 1);
        cases.fault("Term I, TOKENS: an INT ends at a letter", "person p 5^a;", 1);
        cases.fault("Term I, TOKENS: a NAME ends at a digit", "place a^1;", 1);
    }

    private void names() {
        cases.fine("Term I, NAMES: one letter, the first", "place a;");
        cases.fine("Term I, NAMES: one letter, the last", "place z;");
        cases.fine("Term I, NAMES: eight letters, just small enough", "place abcdefgh;");
        cases.fine("Term I, NAMES: eight times z", "place zzzzzzzz;");
        cases.fault("Term I, NAMES: nine letters, one too many", "place ^abcdefghi;", 1);
        cases.fault("Term I, NAMES: a hundred letters", "place ^" + "a".repeat(100) + ";", 1);
        cases.fault("Term I, NAMES: nine letters where a TELL begins", "^abcdefghi", 1);
        cases.fault("Term I, NAMES: no letter", "place ^;", 1);
        int[] others = {'A', 'Z', '@', '[', '_', '`', '{', 'a' + 128, 'z' + 128};
        for (int other : others) {
            cases.fault("Term I, NAMES: byte " + other + " is no letter", "place ^" + (char) other + ";", 1);
            cases.fault("Term I, NAMES: nor in a NAME, byte " + other, "place a^" + (char) other + ";", 1);
        }
        cases.fine("Term I, NAMES: two that differ in the eighth letter", "place abcdefgh; place abcdefgi;");
        cases.fine("Term I, NAMES: two that differ in the first letter", "place abcdefgh; place bbcdefgh;");
        cases.fine("Term I, NAMES: two of which one begins the other", "place a; place aa; place ab; place b;");
        cases.fault("Term I, NAMES: alike in all eight letters", "place abcdefgh; place ^abcdefgh;", 3);
    }

    private void wordsAsNames() {
        for (String word : WORDS) {
            cases.fault("Term I, NAMES: none of the words in quotes, " + word, "place ^" + word + ";", 1);
            cases.fine("Term I, NAMES: a word and a letter more, " + word, "place " + word + "x;");
            String less = word.substring(0, word.length() - 1);
            if (!less.equals("thin")) {
                cases.fine("Term I, NAMES: a word and a letter less, " + word, "place " + less + ";");
            }
        }
    }

    private void ints() {
        cases.fine("Term I, INTS: one digit, 0", "person p 0;");
        cases.fine("Term I, INTS: one digit, 9", "person p 9;");
        cases.fine("Term I, INTS: four digits, just small enough", "person p 0099;");
        cases.fine("Term I, INTS: four times 9", "say if 9999 == 9999;");
        cases.fault("Term I, INTS: five digits, one too many", "person p ^00001;", 1);
        cases.fault("Term I, INTS: five digits in a LAW", "say if ^10000 == 1;", 1);
        cases.fault("Term I, INTS: a hundred digits", "person p ^" + "1".repeat(100) + ";", 1);
        cases.fault("Term I, INTS: no digit", "person p ^;", 1);
        cases.fault("Term I, INTS: below 0 is none", "person p ^-1;", 1);
        cases.fault("Term I, INTS: byte 47 is no digit", "person p ^/;", 1);
        cases.fault("Term I, INTS: byte 58 is no digit", "person p ^:;", 1);
        cases.fault("Term I, INTS: no point in it", "person p 1^.5;", 1);
        OnlyUpward x = Due.village("person p 0099; person q 0000; person r 0010; person s 90;");
        cases.are("Term I, INTS: what they say", x.age(0, 0) + " " + x.age(1, 0) + " " + x.age(2, 0) + " " + x.age(3, 0), "99 0 10 90");
    }

    private void signs() {
        String[] none = {"!", "=", ">", ">=", "&", "|", "%", "~", "\"", "#", "$", "'", ".", ":", "?", "\\", "}"};
        for (String sign : none) {
            cases.fault("Term I, SIGNS: none is " + sign, "say if 1 ^" + sign + " 1;", 1);
            cases.fault("Term I, SIGNS: and no TELL begins with " + sign, "place a; ^" + sign, 1);
        }
        String[] compare = {"==", "!=", "<", "<="};
        for (String sign : compare) {
            cases.fine("Term I, SIGNS: " + sign, "say if 1" + sign + "1;");
        }
        String[] reckon = {"+", "-", "*", "/"};
        for (String sign : reckon) {
            cases.fine("Term I, SIGNS: " + sign, "say if 1" + sign + "1==1;");
        }
        cases.fine("Term I, SIGNS: ( and )", "say if(1)==1;");
        cases.fine("Term I, SIGNS: , and ;", "thing t 1;thing u 1;task k t,u;");
    }

    private void noText() {
        cases.fine("Term I, text: no TELL at all", "");
        OnlyUpward x = Due.village("place a; person p 1; thing t 1; knows p t;");
        x.leave(0, 0, 0);
        x.hold(1);
        x.read();
        cases.are("Term I, text: it is in place of the one ahead all the same", Cases.state(x), Cases.state(new OnlyUpward()));
    }
}
