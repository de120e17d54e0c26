import java.util.Arrays;

/**
 * A village where words go only one way: what is told as a text, a plan of doings, and what comes of it.
 * The numbered promises of ../shared/DOC.md say what each public method answers.
 */
public final class OnlyUpward {
    public static final int NONE = -1;

    /** Answers "never", "nowhere", "to nobody", "all are done". */
    private static final int NEVER = -2;
    /** An hour behind all hours: what never comes to be. */
    private static final int LATE = 99;

    private static final int HOURS = 24;
    private static final int MOST_BYTES = 2000;
    private static final int MOST_TOKENS = 400;
    private static final int MOST_OPEN = 6;
    private static final int MOST_PLACES = 6;
    private static final int MOST_PEOPLE = 10;
    private static final int MOST_THINGS = 6;
    private static final int MOST_MUSTS = 12;
    private static final int MOST_ACTS = 6;
    private static final int MOST_TASKS = 4;
    private static final int MOST_LAWS = 4;
    private static final int MOST_NAMES = 32;
    private static final int MOST_DOINGS = 30;
    private static final int MOST_DAYS = 50;
    private static final int SLOTS = 3;

    private static final int SYNTAX = 1;
    private static final int ROOM = 2;
    private static final int TWICE = 3;
    private static final int UNKNOWN = 4;
    private static final int WRONG = 5;

    /** The words in quotes: a word's number is its kind of token. Those that begin a TELL come first. */
    private static final String WORDS =
            "place person thing thin at knows must act task say ask birth if or and not mine yours hour crowd";
    private static final int WORD_COUNT = 20;

    private static final int PLACE = 0;
    private static final int PERSON = 1;
    private static final int THING = 2;
    private static final int THIN = 3;
    private static final int STAY = 4;
    private static final int KNOWS = 5;
    private static final int MUST = 6;
    private static final int ACT = 7;
    private static final int TASK = 8;
    private static final int SAY_LAW = 9;
    private static final int ASK_LAW = 10;
    private static final int TELLS = 11;
    private static final int BIRTH = 11;
    private static final int IF = 12;
    private static final int OR = 13;
    private static final int AND = 14;
    private static final int NOT = 15;
    private static final int MINE = 16;
    private static final int CROWD = 19;
    private static final int NAME = 20;
    private static final int INT = 21;
    private static final int SEMICOLON = 22;
    private static final int COMMA = 23;
    private static final int PLUS = 24;
    private static final int MINUS = 25;
    private static final int TIMES = 26;
    private static final int OVER = 27;
    private static final int EQUAL = 28;
    private static final int UNEQUAL = 29;
    private static final int LESS = 30;
    private static final int AT_MOST = 31;
    private static final int OPEN = 32;
    private static final int CLOSE = 33;
    private static final int NO_TOKEN = 34;
    private static final int END = 35;

    /** How many there may be of each TELL, and how many names and ints it has at its beginning. */
    private static final int[] MOST = {6, 10, 6, 8, 20, 12, 12, 6, 4, 4, 4};
    private static final int[] NAMES_OF = {1, 1, 1, 2, 2, 2, 2, 2, 2, 0, 0};
    private static final int[] INTS_OF = {0, 1, 1, 0, 2, 0, 1, 1, 0, 0, 0};

    /** What count() tells by 0 .. 9. */
    private static final int[] COUNTED = {PLACE, PERSON, THING, THIN, STAY, MUST, ACT, TASK, SAY_LAW, ASK_LAW};

    private static final int SAY = 0;
    private static final int SHOW = 1;
    private static final int LEAVE = 2;
    private static final int ASK = 3;
    private static final int LEAVE_COST = 5;
    /** What doing() tells behind the parts of a doing. */
    private static final int WHY_NOT = 5;

    private final byte[] tape = new byte[MOST_BYTES];
    private int length = 0;
    private int faultPlace = NONE;
    private final Tokens tokens = new Tokens();
    private final Grammar grammar = new Grammar(tokens);
    private final Teller teller = new Teller(tokens);
    private World told = new World();
    private World spare = new World();
    private final Plan plan = new Plan();
    /** What comes of the plan; gone through again when the plan has changed. */
    private final Course course = new Course();
    private boolean courseFits = false;
    private final Course lotsCourse = new Course();
    private final Spread spread = new Spread();
    private final Cheapest cheapest = new Cheapest();
    private final Rule ruling = new Rule();

    public OnlyUpward() {
    }

    // ---- the tape and the text

    public int feed(int a, int b, int c, int d, int e) {
        if (length + 20 > MOST_BYTES) {
            return NONE;
        }
        putBytes(a);
        putBytes(b);
        putBytes(c);
        putBytes(d);
        putBytes(e);
        return length;
    }

    private void putBytes(int four) {
        for (int shift = 24; shift >= 0 && length < MOST_BYTES; shift -= 8) {
            tape[length] = (byte) (four >>> shift);
            length++;
        }
    }

    public int back(int n) {
        if (n < 0 || n > length) {
            return NONE;
        }
        length -= n;
        return length;
    }

    public int read() {
        tokens.scan(tape, length);
        length = 0;
        spare.clear();
        int fault = grammar.check(spare.laws);
        int at = grammar.at;
        if (fault == 0) {
            fault = teller.tellAll(spare);
            at = teller.faultAt;
        }
        faultPlace = fault == 0 ? NONE : tokens.placeAt(at);
        if (fault == 0) {
            settle();
        }
        return fault;
    }

    /** The text that was read comes in place of the one ahead. */
    private void settle() {
        World ahead = told;
        told = spare;
        spare = ahead;
        told.settle();
        plan.clear();
        courseFits = false;
        cheapest.forget();
        ruling.forget();
    }

    public int place() {
        return faultPlace;
    }

    // ---- who and what there is

    private boolean isOne(int kind, int number) {
        return number >= 0 && number < told.counts[kind];
    }

    private static boolean isHour(int hour) {
        return hour >= 0 && hour < HOURS;
    }

    private static boolean isHourOrEnd(int hour) {
        return hour >= 0 && hour <= HOURS;
    }

    private boolean isSet(int set) {
        return set >>> told.counts[PERSON] == 0;
    }

    private boolean areTwo(int person, int other) {
        return isOne(PERSON, person) && isOne(PERSON, other) && person != other;
    }

    // ---- where people are

    public int age(int person, int hour) {
        if (!isOne(PERSON, person) || !isHour(hour)) {
            return NONE;
        }
        return told.ageAt(person, hour);
    }

    public int where(int person, int hour) {
        if (!isOne(PERSON, person) || !isHour(hour)) {
            return NONE;
        }
        return told.placeOf(person, hour);
    }

    public int earshot(int place, int hour) {
        if (!isOne(PLACE, place) || !isHour(hour)) {
            return NONE;
        }
        return told.hearers(place, hour);
    }

    public int may(int person, int other, int hour, boolean asking) {
        if (!areTwo(person, other) || !isHour(hour)) {
            return NONE;
        }
        return told.allows(person, other, hour, asking, told.everybody()) ? 1 : 0;
    }

    // ---- the plan

    public int say(int hour, int person, int other, int thing) {
        if (!isHour(hour) || !areTwo(person, other) || !isOne(THING, thing)) {
            return NONE;
        }
        return intoPlan(SAY, hour, person, other, thing);
    }

    public int show(int hour, int person, int act) {
        if (!isHour(hour) || !isOne(PERSON, person) || !isOne(ACT, act)) {
            return NONE;
        }
        return intoPlan(SHOW, hour, person, act, told.actThing[act]);
    }

    public int leave(int hour, int person, int thing) {
        if (!isHour(hour) || !isOne(PERSON, person) || !isOne(THING, thing)) {
            return NONE;
        }
        return intoPlan(LEAVE, hour, person, NONE, thing);
    }

    public int ask(int hour, int person, int other, int thing) {
        if (!isHour(hour) || !areTwo(person, other) || !isOne(THING, thing)) {
            return NONE;
        }
        return intoPlan(ASK, hour, person, other, thing);
    }

    private int intoPlan(int sort, int hour, int person, int other, int thing) {
        courseFits = false;
        return plan.add(sort, hour, person, other, thing);
    }

    public int drop(int doing) {
        if (!plan.has(doing)) {
            return NONE;
        }
        courseFits = false;
        plan.remove(doing);
        return plan.size;
    }

    public int doing(int doing, int what) {
        if (!plan.has(doing) || what < 0 || what > WHY_NOT) {
            return NONE;
        }
        return what == WHY_NOT ? planCourse().reasons[doing] : plan.part(doing, what);
    }

    public boolean hold(int slot) {
        return plan.keep(slot);
    }

    public boolean restore(int slot) {
        courseFits = false;
        return plan.bring(slot);
    }

    /** What comes of the plan as it is now. */
    private Course planCourse() {
        if (!courseFits) {
            course.nobodyDies();
            course.go(told, plan);
            courseFits = true;
        }
        return course;
    }

    public int judge() {
        return planCourse().firstNotDone(plan);
    }

    public int cost() {
        return planCourse().spent;
    }

    // ---- what is known by the plan

    public int knows(int person, int hour) {
        if (!isOne(PERSON, person) || !isHourOrEnd(hour)) {
            return NONE;
        }
        return planCourse().known.thingsOf(person, hour);
    }

    public int when(int person, int thing) {
        if (!isOne(PERSON, person) || !isOne(THING, thing)) {
            return NONE;
        }
        return orNever(planCourse().known.firstHour(person, thing));
    }

    private static int orNever(int hour) {
        return hour > HOURS ? NEVER : hour;
    }

    public int seen(int person, int other, int hour) {
        if (!areTwo(person, other) || !isHourOrEnd(hour)) {
            return NONE;
        }
        return planCourse().seenThings(person, other, hour);
    }

    public int lost(int person, int hour) {
        if (!isOne(PERSON, person) || !isHourOrEnd(hour)) {
            return NONE;
        }
        return onlyWith(planCourse().known, person, hour);
    }

    private int onlyWith(Knowledge known, int person, int hour) {
        int things = known.thingsOf(person, hour);
        for (int other = 0; other < told.counts[PERSON]; other++) {
            if (other != person) {
                things &= ~known.thingsOf(other, hour);
            }
        }
        return things;
    }

    public int before(int person, int hour) {
        if (!isOne(PERSON, person) || !isHourOrEnd(hour)) {
            return NONE;
        }
        int things = onlyWith(planCourse().known, person, hour);
        int dearest = NEVER;
        for (int thing = 0; thing < told.counts[THING]; thing++) {
            boolean dearer = dearest == NEVER || told.worths[thing] > told.worths[dearest];
            if (hasBit(things, thing) && dearer) {
                dearest = thing;
            }
        }
        return dearest;
    }

    public int missed(int i) {
        Knowledge known = planCourse().known;
        int found = 0;
        for (int must = 0; must < told.counts[MUST]; must++) {
            if (known.misses(told, must)) {
                if (found == i) {
                    return must;
                }
                found++;
            }
        }
        return i == NONE ? found : NONE;
    }

    public int harm() {
        return planCourse().known.worthMissed(told);
    }

    public int rank(int hour, int i) {
        if (!isHourOrEnd(hour) || !isOne(PERSON, i)) {
            return NONE;
        }
        Knowledge known = planCourse().known;
        for (int person = 0; person < told.counts[PERSON]; person++) {
            if (knowMore(known, person, hour) == i) {
                return person;
            }
        }
        return NONE;
    }

    /** How many people come ahead of one by RANK. */
    private int knowMore(Knowledge known, int person, int hour) {
        int mine = Integer.bitCount(known.thingsOf(person, hour));
        int ahead = 0;
        for (int other = 0; other < told.counts[PERSON]; other++) {
            int yours = Integer.bitCount(known.thingsOf(other, hour));
            if (yours > mine || yours == mine && told.isElder(other, person, hour)) {
                ahead++;
            }
        }
        return ahead;
    }

    public int share(int hour, int k, int what) {
        if (!isHourOrEnd(hour) || k < 0 || k > MOST_PEOPLE || what < 0 || what > 1) {
            return NONE;
        }
        int first = what == 1 ? MOST_PEOPLE : k;
        int sum = 0;
        for (int i = 0; i < told.counts[PERSON] && i < first; i++) {
            sum += Integer.bitCount(planCourse().known.thingsOf(told.elder(i, 0), hour));
        }
        return sum;
    }

    // ---- how soon, how cheaply

    private boolean canSpread(int thing, int knowers, int h0) {
        return isOne(THING, thing) && isSet(knowers) && isHour(h0);
    }

    private static boolean isLaw(int law) {
        return law >= Spread.AS_TOLD && law <= Spread.NO_LAW;
    }

    public int soon(int person, int thing, int knowers, int h0, int law, boolean aloud) {
        if (!isOne(PERSON, person) || !canSpread(thing, knowers, h0) || !isLaw(law)) {
            return NONE;
        }
        spread.go(told, thing, knowers, h0, law, aloud);
        return orNever(spread.first[person]);
    }

    public int all(int thing, int knowers, int h0, int law, boolean aloud) {
        if (!canSpread(thing, knowers, h0) || !isLaw(law)) {
            return NONE;
        }
        spread.go(told, thing, knowers, h0, law, aloud);
        int latest = h0;
        for (int person = 0; person < told.counts[PERSON]; person++) {
            latest = Math.max(latest, spread.first[person]);
        }
        return orNever(latest);
    }

    /** The first hour at which one can know a thing, from those who know it at first; LATE: never. */
    private int soonFromFirst(int person, int thing) {
        spread.go(told, thing, told.knowersAtFirst(thing), 0, Spread.AS_TOLD, false);
        return spread.first[person];
    }

    public int can(int what) {
        if (what < 0 || what > 1) {
            return NONE;
        }
        int can = 0;
        int bound = 0;
        for (int must = 0; must < told.counts[MUST]; must++) {
            int thing = told.mustThing[must];
            if (soonFromFirst(told.mustPerson[must], thing) <= told.mustHour[must]) {
                can++;
            } else {
                bound += told.worths[thing];
            }
        }
        return what == 0 ? can : bound;
    }

    public int task(int task, int person) {
        if (!isOne(TASK, task) || !isOne(PERSON, person)) {
            return NONE;
        }
        int latest = 0;
        for (int thing = 0; thing < told.counts[THING]; thing++) {
            if (hasBit(told.taskThings[task], thing)) {
                latest = Math.max(latest, soonFromFirst(person, thing));
            }
        }
        return orNever(latest);
    }

    public int cheap(int person, int thing, int knowers, int h0, int what) {
        if (!isOne(PERSON, person) || !canSpread(thing, knowers, h0) || what < 0 || what > 1) {
            return NONE;
        }
        cheapest.aim(person, thing);
        int least = cheapest.leastWay(told, h0, knowers);
        if (least == Cheapest.IMPOSSIBLE) {
            return NEVER;
        }
        return what == 0 ? least / Cheapest.COST_UNIT : least % Cheapest.COST_UNIT;
    }

    public int cheapAt(int person, int thing, int knowers, int h0, int i) {
        if (!isOne(PERSON, person) || !canSpread(thing, knowers, h0) || i < 0) {
            return NONE;
        }
        cheapest.aim(person, thing);
        return cheapest.step(told, h0, knowers, i);
    }

    // ---- who hears

    public int secret(int person, int hour) {
        if (!isOne(PERSON, person) || !isHour(hour)) {
            return NONE;
        }
        int others = told.sayTo(person, hour);
        if (others == 0 || youngerHearers(person, hour) != 0) {
            return NEVER;
        }
        return Integer.numberOfTrailingZeros(others);
    }

    public int below(int person, int hour) {
        if (!isOne(PERSON, person) || !isHour(hour)) {
            return NONE;
        }
        return youngerHearers(person, hour);
    }

    private int youngerHearers(int person, int hour) {
        int hearers = told.hearers(told.placeOf(person, hour), hour);
        int younger = 0;
        for (int other = 0; other < told.counts[PERSON]; other++) {
            if (hasBit(hearers, other) && told.ageAt(other, hour) < told.ageAt(person, hour)) {
                younger |= 1 << other;
            }
        }
        return younger;
    }

    public int stand(int place, int hour, int set) {
        if (!isOne(PLACE, place) || !isHour(hour) || !isSet(set)) {
            return NONE;
        }
        return set & ~told.hearers(place, hour);
    }

    public int best(int person, int h0, int set) {
        if (!isOne(PERSON, person) || !isHour(h0) || !isSet(set)) {
            return NONE;
        }
        for (int hour = h0; hour < HOURS; hour++) {
            int hearers = told.hearers(told.placeOf(person, hour), hour);
            if ((set & ~hearers) == 0 && told.sayTo(person, hour) != 0) {
                return hour;
            }
        }
        return NEVER;
    }

    // ---- the rule

    public int rule(int what) {
        if (what < 0 || what > 2) {
            return NONE;
        }
        ruling.go(told);
        if (what == 0) {
            return ruling.known.worthMissed(told);
        }
        return what == 1 ? ruling.spent : ruling.done;
    }

    public int ruled(int person, int hour) {
        if (!isOne(PERSON, person) || !isHourOrEnd(hour)) {
            return NONE;
        }
        ruling.go(told);
        return ruling.known.thingsOf(person, hour);
    }

    // ---- days by lots

    private static boolean isFrail(int frail) {
        return frail >= 0 && frail <= 100;
    }

    private void goDay(int seed, int frail) {
        lotsCourse.drawDeaths(seed, frail, told.counts[PERSON]);
        lotsCourse.go(told, plan);
    }

    public int day(int seed, int frail, int what) {
        if (!isFrail(frail) || what < 0 || what > 3) {
            return NONE;
        }
        goDay(seed, frail);
        switch (what) {
            case 0:
                return lotsCourse.aliveAt(HOURS - 1, told);
            case 1:
                return lotsCourse.goneThings(told);
            case 2:
                return lotsCourse.known.worthMissed(told);
            default:
                return lotsCourse.done;
        }
    }

    public int kept(int seed, int k, int frail, int thing) {
        if (k < 1 || k > MOST_DAYS || !isFrail(frail) || !isOne(THING, thing)) {
            return NONE;
        }
        int days = 0;
        for (int i = 0; i < k; i++) {
            goDay(seed + i, frail);
            if (!hasBit(lotsCourse.goneThings(told), thing)) {
                days++;
            }
        }
        return days;
    }

    // ---- counts

    public int count(int what) {
        if (what >= 0 && what < COUNTED.length) {
            return told.counts[COUNTED[what]];
        }
        switch (what) {
            case 10:
                return plan.size;
            case 11:
                return length;
            case 12:
                return plan.fullSlots();
            default:
                return countOfOne(what);
        }
    }

    private int countOfOne(int what) {
        if (what >= 20 && isOne(THING, what - 20)) {
            return told.worths[what - 20];
        }
        if (what >= 30 && isOne(TASK, what - 30)) {
            return Integer.bitCount(told.taskThings[what - 30]);
        }
        if (what >= 40 && isOne(ACT, what - 40)) {
            return told.actCost[what - 40];
        }
        return NONE;
    }

    private static boolean hasBit(int set, int number) {
        return (set >>> number & 1) == 1;
    }

    private static int lot(int n, int seed, int which) {
        int h = mix(mix(seed, 17), which);
        return n <= 0 ? 0 : (h >>> 1) % n;
    }

    private static int mix(int h, int it) {
        int mixed = (h ^ it) * 1103515245 + 12345;
        return mixed ^ mixed >>> 15;
    }

    /** The text cut into tokens. One more than allowed is kept, so that the one too many has its place. */
    private static final class Tokens {
        private final int[] kinds = new int[MOST_TOKENS + 2];
        private final int[] places = new int[MOST_TOKENS + 2];
        /** An int's value, or a name's letters as one number. */
        private final long[] values = new long[MOST_TOKENS + 2];
        private final long[] words = new long[WORD_COUNT];
        private int size = 0;

        Tokens() {
            int word = 0;
            for (int i = 0; i < WORDS.length() && word < WORD_COUNT; i++) {
                char sign = WORDS.charAt(i);
                if (sign == ' ') {
                    word++;
                } else {
                    words[word] = withLetter(words[word], sign);
                }
            }
        }

        private static long withLetter(long letters, int sign) {
            return letters * 27 + (sign - 'a' + 1);
        }

        int kindAt(int i) {
            return i >= 0 && i < size ? kinds[i] : END;
        }

        int placeAt(int i) {
            return i >= 0 && i < size ? places[i] : 0;
        }

        long valueAt(int i) {
            return i >= 0 && i < size ? values[i] : 0;
        }

        void scan(byte[] tape, int length) {
            size = 0;
            for (int at = 0; at < length && size <= MOST_TOKENS; at++) {
                int sign = tape[at];
                if (sign != ' ' && sign != 9 && sign != 10 && sign != 13) {
                    at = Math.max(at, scanOne(tape, length, at) - 1);
                }
            }
            put(END, length, 0);
        }

        private void put(int kind, int place, long value) {
            if (size < kinds.length) {
                kinds[size] = kind;
                places[size] = place;
                values[size] = value;
                size++;
            }
        }

        /** Puts the token that begins at a byte; answers where it ends. */
        private int scanOne(byte[] tape, int length, int at) {
            int sign = tape[at];
            if (sign >= 'a' && sign <= 'z') {
                return scanWord(tape, length, at);
            }
            if (sign >= '0' && sign <= '9') {
                return scanInt(tape, length, at);
            }
            boolean twice = at + 1 < length && tape[at + 1] == '=' && isBeforeEqual(sign);
            put(twice ? longSign(sign) : shortSign(sign), at, 0);
            return twice ? at + 2 : at + 1;
        }

        private static int endOfRun(byte[] tape, int length, int at, int low, int high) {
            int end = at;
            while (end < length && tape[end] >= low && tape[end] <= high) {
                end++;
            }
            return end;
        }

        private int scanWord(byte[] tape, int length, int at) {
            int end = endOfRun(tape, length, at, 'a', 'z');
            if (end - at > 8) {
                put(NO_TOKEN, at, 0);
                return end;
            }
            long letters = 0;
            for (int i = at; i < end; i++) {
                letters = withLetter(letters, tape[i]);
            }
            int kind = NAME;
            for (int word = 0; word < WORD_COUNT; word++) {
                if (words[word] == letters) {
                    kind = word;
                }
            }
            put(kind, at, letters);
            return end;
        }

        private int scanInt(byte[] tape, int length, int at) {
            int end = endOfRun(tape, length, at, '0', '9');
            if (end - at > 4) {
                put(NO_TOKEN, at, 0);
                return end;
            }
            int value = 0;
            for (int i = at; i < end; i++) {
                value = value * 10 + (tape[i] - '0');
            }
            put(INT, at, value);
            return end;
        }

        private static boolean isBeforeEqual(int sign) {
            return sign == '=' || sign == '!' || sign == '<';
        }

        private static int longSign(int sign) {
            if (sign == '<') {
                return AT_MOST;
            }
            return sign == '=' ? EQUAL : UNEQUAL;
        }

        private static int shortSign(int sign) {
            switch (sign) {
                case ';':
                    return SEMICOLON;
                case ',':
                    return COMMA;
                case '+':
                    return PLUS;
                case '-':
                    return MINUS;
                case '*':
                    return TIMES;
                case '/':
                    return OVER;
                case '<':
                    return LESS;
                case '(':
                    return OPEN;
                case ')':
                    return CLOSE;
                default:
                    return NO_TOKEN;
            }
        }
    }

    /**
     * The first going through the tokens: finds SYNTAX and ROOM, and writes the laws' conditions behind one another
     * as steps (operands first), with a row of operators that wait, so that no call goes deeper with the text.
     */
    private static final class Grammar {
        private final Tokens tokens;
        private final int[] counts = new int[TELLS];
        private final int[] waiting = new int[MOST_TOKENS];
        private int waits = 0;
        private int at = 0;
        private int fault = 0;
        private int open = 0;
        /** Of the condition so far: an operand ends it; its last LIT has begun, has its comparison. */
        private boolean operandEnds = false;
        private boolean litBegun = false;
        private boolean litCompared = false;

        Grammar(Tokens tokens) {
            this.tokens = tokens;
        }

        /** The number of the first fault, 0 without; at is its token then. */
        int check(Laws laws) {
            Arrays.fill(counts, 0);
            at = 0;
            fault = 0;
            for (int i = 0; i <= MOST_TOKENS && fault == 0 && tokens.kindAt(at) != END; i++) {
                checkTell(laws);
            }
            return fault;
        }

        private void checkTell(Laws laws) {
            int tell = tokens.kindAt(at);
            if (tell >= TELLS) {
                fault = SYNTAX;
                return;
            }
            counts[tell]++;
            if (counts[tell] > MOST[tell]) {
                fault = ROOM;
                return;
            }
            take(tell);
            for (int i = 0; i < NAMES_OF[tell]; i++) {
                take(NAME);
            }
            for (int i = 0; i < INTS_OF[tell]; i++) {
                take(INT);
            }
            if (tell == PERSON && tokens.kindAt(at) == BIRTH) {
                take(BIRTH);
                take(INT);
            }
            if (tell == TASK) {
                takeFurtherNames();
            }
            if (tell == SAY_LAW || tell == ASK_LAW) {
                take(IF);
                laws.begin(tell == ASK_LAW);
                takeCondition(laws);
                laws.end();
            }
            take(SEMICOLON);
        }

        /** Goes on if the token is of a kind; SYNTAX comes ahead of ROOM at one place. */
        private void take(int kind) {
            if (fault != 0) {
                return;
            }
            if (tokens.kindAt(at) != kind) {
                fault = SYNTAX;
            } else if (at >= MOST_TOKENS) {
                fault = ROOM;
            } else {
                at++;
            }
        }

        private void takeFurtherNames() {
            for (int i = 0; i < MOST_TOKENS && fault == 0 && tokens.kindAt(at) == COMMA; i++) {
                take(COMMA);
                take(NAME);
            }
        }

        private void takeCondition(Laws laws) {
            waits = 0;
            open = 0;
            operandEnds = false;
            litBegun = false;
            litCompared = false;
            for (int i = 0; i <= MOST_TOKENS && fault == 0; i++) {
                int kind = tokens.kindAt(at);
                if (kind == SEMICOLON && operandEnds && open == 0 && litCompared) {
                    break;
                }
                if (operandEnds) {
                    takeBehindOperand(kind, laws);
                } else {
                    takeOperand(kind, laws);
                }
            }
            release(1, laws);
        }

        private void takeOperand(int kind, Laws laws) {
            if (kind == NOT && !litBegun || kind == OPEN && open < MOST_OPEN) {
                push(kind);
            } else if (kind == OPEN) {
                fault = ROOM;
            } else if (kind == INT || kind >= MINE && kind <= CROWD) {
                laws.put(kind, (int) tokens.valueAt(at));
                operandEnds = true;
            } else {
                fault = SYNTAX;
            }
            if (kind == OPEN) {
                open++;
            }
            if (kind != NOT) {
                litBegun = true;
            }
            take(kind);
        }

        private void takeBehindOperand(int kind, Laws laws) {
            if (kind == CLOSE && open > 0) {
                release(1, laws);
                waits = Math.max(0, waits - 1);
                open--;
            } else if (isReckoning(kind) || isComparison(kind) && open == 0 && !litCompared) {
                release(tightness(kind), laws);
                push(kind);
                operandEnds = false;
                litCompared = litCompared || isComparison(kind);
            } else if ((kind == AND || kind == OR) && open == 0 && litCompared) {
                release(tightness(kind), laws);
                push(kind);
                operandEnds = false;
                litBegun = false;
                litCompared = false;
            } else {
                fault = SYNTAX;
            }
            take(kind);
        }

        private void push(int kind) {
            if (waits < waiting.length) {
                waiting[waits] = kind;
                waits++;
            }
        }

        /** The operators that wait and bind as tightly, back to the last ( that is open, become steps. */
        private void release(int tightness, Laws laws) {
            while (waits > 0 && tightness(waiting[waits - 1]) >= tightness) {
                waits--;
                laws.put(waiting[waits], 0);
            }
        }

        private static int tightness(int kind) {
            switch (kind) {
                case OR:
                    return 1;
                case AND:
                    return 2;
                case NOT:
                    return 3;
                case PLUS:
                case MINUS:
                    return 5;
                case TIMES:
                case OVER:
                    return 6;
                default:
                    return isComparison(kind) ? 4 : 0;
            }
        }

        private static boolean isReckoning(int kind) {
            return kind >= PLUS && kind <= OVER;
        }

        static boolean isComparison(int kind) {
            return kind >= EQUAL && kind <= AT_MOST;
        }
    }

    /** The laws of saying and of asking as steps; the kinds of tokens serve as steps. */
    private static final class Laws {
        private final int[] steps = new int[MOST_TOKENS];
        private final int[] values = new int[MOST_TOKENS];
        private final int[] starts = new int[2 * MOST_LAWS];
        private final int[] ends = new int[2 * MOST_LAWS];
        private final int[] sizes = new int[2];
        /** mine, yours, hour, crowd. */
        private final int[] vars = new int[4];
        private final int[] stack = new int[32];
        private int size = 0;
        private int latest = 0;

        void clear() {
            size = 0;
            Arrays.fill(sizes, 0);
        }

        void begin(boolean asking) {
            int kind = asking ? 1 : 0;
            if (sizes[kind] < MOST_LAWS) {
                latest = kind * MOST_LAWS + sizes[kind];
                sizes[kind]++;
                starts[latest] = size;
                ends[latest] = size;
            }
        }

        void put(int step, int value) {
            if (size < steps.length) {
                steps[size] = step;
                values[size] = value;
                size++;
            }
        }

        void end() {
            ends[latest] = size;
        }

        boolean allow(boolean asking, int mine, int yours, int hour, int crowd) {
            int kind = asking ? 1 : 0;
            if (sizes[kind] == 0) {
                return asking || mine <= yours;
            }
            vars[0] = mine;
            vars[1] = yours;
            vars[2] = hour;
            vars[3] = crowd;
            for (int i = 0; i < sizes[kind]; i++) {
                if (holds(kind * MOST_LAWS + i)) {
                    return true;
                }
            }
            return false;
        }

        private boolean holds(int law) {
            int top = 0;
            boolean byZero = false;
            for (int i = starts[law]; i < ends[law]; i++) {
                int step = steps[i];
                if (step == INT || step >= MINE && step <= CROWD) {
                    if (top < stack.length) {
                        stack[top] = step == INT ? values[i] : vars[step - MINE];
                        top++;
                    }
                } else if (step == NOT && top > 0) {
                    stack[top - 1] = 1 - stack[top - 1];
                } else if (top > 1) {
                    top--;
                    int right = stack[top];
                    byZero = byZero || step == OVER && right == 0;
                    int result = combine(step, stack[top - 1], right);
                    if (Grammar.isComparison(step)) {
                        result = byZero ? 0 : result;
                        byZero = false;
                    }
                    stack[top - 1] = result;
                }
            }
            return top > 0 && stack[0] != 0;
        }

        private static int combine(int step, int left, int right) {
            switch (step) {
                case PLUS:
                    return left + right;
                case MINUS:
                    return left - right;
                case TIMES:
                    return left * right;
                case OVER:
                    return right == 0 ? 0 : left / right;
                case EQUAL:
                    return left == right ? 1 : 0;
                case UNEQUAL:
                    return left != right ? 1 : 0;
                case LESS:
                    return left < right ? 1 : 0;
                case AT_MOST:
                    return left <= right ? 1 : 0;
                case AND:
                    return left & right;
                case OR:
                    return left | right;
                default:
                    return 0;
            }
        }
    }

    /** The second going through the tokens, which are a text by now: finds the other faults, and tells the world. */
    private static final class Teller {
        private final Tokens tokens;
        private final long[] names = new long[MOST_NAMES];
        private final int[] kinds = new int[MOST_NAMES];
        private final int[] numbers = new int[MOST_NAMES];
        private int size = 0;
        private int fault = 0;
        private int faultAt = 0;

        Teller(Tokens tokens) {
            this.tokens = tokens;
        }

        /** The number of the first fault, 0 without; faultAt is its token then. */
        int tellAll(World world) {
            size = 0;
            fault = 0;
            boolean begins = true;
            for (int at = 0; at < tokens.size && fault == 0; at++) {
                if (begins) {
                    tellOne(world, at);
                }
                begins = tokens.kindAt(at) == SEMICOLON;
            }
            return fault;
        }

        private void tellOne(World world, int at) {
            int tell = tokens.kindAt(at);
            switch (tell) {
                case PLACE:
                case PERSON:
                case THING:
                    tellBeing(world, tell, at);
                    break;
                case THIN:
                case STAY:
                    tellPlacing(world, tell, at);
                    break;
                case KNOWS:
                case MUST:
                    tellKnowing(world, tell, at);
                    break;
                case ACT:
                    newName(world, ACT, at + 1);
                    int shown = oldName(THING, at + 2);
                    world.addAct(shown, within(at + 3, 1, 99));
                    break;
                case TASK:
                    newName(world, TASK, at + 1);
                    world.addTask(taskThings(at + 2));
                    break;
                case SAY_LAW:
                case ASK_LAW:
                    world.counts[tell]++;
                    break;
                default:
                    break;
            }
        }

        private void tellBeing(World world, int tell, int at) {
            newName(world, tell, at + 1);
            if (tell == PLACE) {
                world.addPlace();
                return;
            }
            int value = within(at + 2, 0, 99);
            if (tell == THING) {
                world.addThing(value);
                return;
            }
            boolean hasBirth = tokens.kindAt(at + 3) == BIRTH;
            world.addPerson(value, hasBirth ? within(at + 4, 0, HOURS - 1) : LATE);
        }

        private void tellPlacing(World world, int tell, int at) {
            int first = oldName(tell == THIN ? PLACE : PERSON, at + 1);
            int place = oldName(PLACE, at + 2);
            if (tell == THIN) {
                if (first == place) {
                    refuse(WRONG, at + 2);
                }
                world.addThin(first, place);
                return;
            }
            int from = within(at + 3, 0, HOURS - 1);
            world.addStay(first, place, from, within(at + 4, from, HOURS - 1));
        }

        private void tellKnowing(World world, int tell, int at) {
            int person = oldName(PERSON, at + 1);
            int thing = oldName(THING, at + 2);
            if (tell == KNOWS) {
                world.addKnown(person, thing);
            } else {
                world.addMust(person, thing, within(at + 3, 0, HOURS - 1));
            }
        }

        private int taskThings(int at) {
            int things = 0;
            for (int i = at; i < tokens.size && tokens.kindAt(i) == NAME; i += 2) {
                int thing = oldName(THING, i);
                if (hasBit(things, thing)) {
                    refuse(TWICE, i);
                }
                things |= 1 << thing;
            }
            return things;
        }

        /** Only the first fault counts; what comes behind one is told in vain. */
        private void refuse(int number, int at) {
            if (fault == 0) {
                fault = number;
                faultAt = at;
            }
        }

        private int find(int at) {
            long letters = tokens.valueAt(at);
            for (int i = 0; i < size; i++) {
                if (names[i] == letters) {
                    return i;
                }
            }
            return NONE;
        }

        private void newName(World world, int kind, int at) {
            if (find(at) != NONE) {
                refuse(TWICE, at);
            } else if (size < MOST_NAMES) {
                names[size] = tokens.valueAt(at);
                kinds[size] = kind;
                numbers[size] = world.counts[kind];
                size++;
            }
        }

        private int oldName(int kind, int at) {
            int i = find(at);
            if (i == NONE || kinds[i] != kind) {
                refuse(UNKNOWN, at);
                return 0;
            }
            return numbers[i];
        }

        private int within(int at, int low, int high) {
            int value = (int) tokens.valueAt(at);
            if (value < low || value > high) {
                refuse(WRONG, at);
                return low;
            }
            return value;
        }
    }

    /** What a text tells, and who is where by it. */
    private static final class World {
        /** How many of each TELL. */
        private final int[] counts = new int[TELLS];
        private final int[] ages = new int[MOST_PEOPLE];
        private final int[] births = new int[MOST_PEOPLE];
        private final int[] worths = new int[MOST_THINGS];
        /** The places (bits) with a thin wall to each. */
        private final int[] walls = new int[MOST_PLACES];
        /** The things (bits) that each knows at first. */
        private final int[] firsts = new int[MOST_PEOPLE];
        private final int[] mustPerson = new int[MOST_MUSTS];
        private final int[] mustThing = new int[MOST_MUSTS];
        private final int[] mustHour = new int[MOST_MUSTS];
        private final int[] actThing = new int[MOST_ACTS];
        private final int[] actCost = new int[MOST_ACTS];
        private final int[] taskThings = new int[MOST_TASKS];
        private final Laws laws = new Laws();
        /** Person by hour: the place. */
        private final int[] placing = new int[MOST_PEOPLE * HOURS];
        /** Place by hour: the people (bits) there, and in earshot. */
        private final int[] standing = new int[MOST_PLACES * HOURS];
        private final int[] hearing = new int[MOST_PLACES * HOURS];
        /** Person by hour: to whom (bits) one may say. */
        private final int[] sayings = new int[MOST_PEOPLE * HOURS];

        World() {
            clear();
        }

        void clear() {
            Arrays.fill(counts, 0);
            Arrays.fill(walls, 0);
            Arrays.fill(firsts, 0);
            Arrays.fill(placing, NEVER);
            laws.clear();
        }

        void addPlace() {
            if (counts[PLACE] < MOST_PLACES) {
                counts[PLACE]++;
            }
        }

        void addPerson(int age, int birth) {
            int person = counts[PERSON];
            if (person < MOST_PEOPLE) {
                ages[person] = age;
                births[person] = birth;
                counts[PERSON]++;
            }
        }

        void addThing(int worth) {
            int thing = counts[THING];
            if (thing < MOST_THINGS) {
                worths[thing] = worth;
                counts[THING]++;
            }
        }

        void addThin(int first, int second) {
            counts[THIN]++;
            walls[first] |= 1 << second;
            walls[second] |= 1 << first;
        }

        /** A stay that is told later is written over the ones ahead. */
        void addStay(int person, int place, int from, int to) {
            counts[STAY]++;
            for (int hour = from; hour <= to; hour++) {
                placing[person * HOURS + hour] = place;
            }
        }

        void addKnown(int person, int thing) {
            counts[KNOWS]++;
            firsts[person] |= 1 << thing;
        }

        void addMust(int person, int thing, int hour) {
            int must = counts[MUST];
            if (must < MOST_MUSTS) {
                mustPerson[must] = person;
                mustThing[must] = thing;
                mustHour[must] = hour;
                counts[MUST]++;
            }
        }

        void addAct(int thing, int price) {
            int act = counts[ACT];
            if (act < MOST_ACTS) {
                actThing[act] = thing;
                actCost[act] = price;
                counts[ACT]++;
            }
        }

        void addTask(int things) {
            int task = counts[TASK];
            if (task < MOST_TASKS) {
                taskThings[task] = things;
                counts[TASK]++;
            }
        }

        /** When all is told: who has no stay is in place 0, and who stands, hears and may say is written down. */
        void settle() {
            Arrays.fill(standing, 0);
            for (int person = 0; person < counts[PERSON] && counts[PLACE] > 0; person++) {
                for (int hour = 0; hour < HOURS; hour++) {
                    int place = Math.max(0, placing[person * HOURS + hour]);
                    placing[person * HOURS + hour] = place;
                    standing[place * HOURS + hour] |= 1 << person;
                }
            }
            for (int place = 0; place < counts[PLACE]; place++) {
                for (int hour = 0; hour < HOURS; hour++) {
                    hearing[place * HOURS + hour] = standersWithin(walls[place] | 1 << place, hour);
                }
            }
            for (int person = 0; person < counts[PERSON]; person++) {
                for (int hour = 0; hour < HOURS; hour++) {
                    sayings[person * HOURS + hour] = othersToSayTo(person, hour);
                }
            }
        }

        private int othersToSayTo(int person, int hour) {
            int others = 0;
            for (int other = 0; other < counts[PERSON]; other++) {
                if (other != person && allows(person, other, hour, false, everybody())) {
                    others |= 1 << other;
                }
            }
            return others;
        }

        private int standersWithin(int places, int hour) {
            int people = 0;
            for (int place = 0; place < counts[PLACE]; place++) {
                if (hasBit(places, place)) {
                    people |= standing[place * HOURS + hour];
                }
            }
            return people;
        }

        int everybody() {
            return (1 << counts[PERSON]) - 1;
        }

        int ageAt(int person, int hour) {
            return hour >= births[person] ? ages[person] + 1 : ages[person];
        }

        /** If one is older than another one, or alike and told ahead of him. */
        boolean isElder(int person, int other, int hour) {
            int mine = ageAt(person, hour);
            int yours = ageAt(other, hour);
            return mine > yours || mine == yours && person < other;
        }

        /** The i-th by age, the oldest first. */
        int elder(int i, int hour) {
            for (int person = 0; person < counts[PERSON]; person++) {
                int ahead = 0;
                for (int other = 0; other < counts[PERSON]; other++) {
                    ahead += isElder(other, person, hour) ? 1 : 0;
                }
                if (ahead == i) {
                    return person;
                }
            }
            return 0;
        }

        /** NEVER: nowhere. */
        int placeOf(int person, int hour) {
            return placing[person * HOURS + hour];
        }

        int standers(int place, int hour) {
            return place < 0 ? 0 : standing[place * HOURS + hour];
        }

        int hearers(int place, int hour) {
            return place < 0 ? 0 : hearing[place * HOURS + hour];
        }

        /** If one MAY say to (ask) another one while those are alive; the dead are nowhere. */
        boolean allows(int person, int other, int hour, boolean asking, int alive) {
            int there = standers(placeOf(person, hour), hour) & alive;
            if (!hasBit(there, person) || !hasBit(there, other)) {
                return false;
            }
            int crowd = Integer.bitCount(there);
            return laws.allow(asking, ageAt(person, hour), ageAt(other, hour), hour, crowd);
        }

        /** To whom (bits) one may say, while all are alive. */
        int sayTo(int person, int hour) {
            return sayings[person * HOURS + hour];
        }

        int knowersAtFirst(int thing) {
            int knowers = 0;
            for (int person = 0; person < counts[PERSON]; person++) {
                knowers |= (firsts[person] >>> thing & 1) << person;
            }
            return knowers;
        }
    }

    /** The doings, and those that are held in slots. */
    private static final class Plan {
        /** Of a doing: its sort, hour, person, the other one or the act, the thing. */
        private static final int ROW = 5;
        private final int[] rows = new int[MOST_DOINGS * ROW];
        private int size = 0;
        private final int[] heldRows = new int[SLOTS * MOST_DOINGS * ROW];
        /** How many doings a slot holds; NONE: it holds nothing. */
        private final int[] heldSizes = new int[SLOTS];

        Plan() {
            clear();
        }

        /** No doings, and nothing is held. */
        void clear() {
            size = 0;
            Arrays.fill(heldSizes, NONE);
        }

        int fullSlots() {
            int full = 0;
            for (int slot = 0; slot < SLOTS; slot++) {
                full += heldSizes[slot] == NONE ? 0 : 1;
            }
            return full;
        }

        boolean keep(int slot) {
            if (slot < 0 || slot >= SLOTS) {
                return false;
            }
            heldSizes[slot] = size;
            System.arraycopy(rows, 0, heldRows, slot * rows.length, rows.length);
            return true;
        }

        boolean bring(int slot) {
            if (slot < 0 || slot >= SLOTS || heldSizes[slot] == NONE) {
                return false;
            }
            size = heldSizes[slot];
            System.arraycopy(heldRows, slot * rows.length, rows, 0, rows.length);
            return true;
        }

        boolean has(int doing) {
            return doing >= 0 && doing < size;
        }

        int part(int doing, int what) {
            return rows[doing * ROW + what];
        }

        int sort(int doing) {
            return part(doing, 0);
        }

        int hour(int doing) {
            return part(doing, 1);
        }

        int person(int doing) {
            return part(doing, 2);
        }

        int other(int doing) {
            return part(doing, 3);
        }

        int thing(int doing) {
            return part(doing, 4);
        }

        int add(int sort, int hour, int person, int other, int thing) {
            if (size >= MOST_DOINGS) {
                return NONE;
            }
            int row = size * ROW;
            rows[row] = sort;
            rows[row + 1] = hour;
            rows[row + 2] = person;
            rows[row + 3] = other;
            rows[row + 4] = thing;
            size++;
            return size - 1;
        }

        void remove(int doing) {
            if (has(doing)) {
                int behind = (doing + 1) * ROW;
                System.arraycopy(rows, behind, rows, doing * ROW, size * ROW - behind);
                size--;
            }
        }

        /** If a doing ahead of it is by the same person at the same hour. */
        boolean isSecond(int doing) {
            for (int i = 0; i < doing; i++) {
                if (hour(i) == hour(doing) && person(i) == person(doing)) {
                    return true;
                }
            }
            return false;
        }
    }

    /** Who knows what from which hour on. */
    private static final class Knowledge {
        private final int[] from = new int[MOST_PEOPLE * MOST_THINGS];

        void begin(World world) {
            for (int person = 0; person < MOST_PEOPLE; person++) {
                for (int thing = 0; thing < MOST_THINGS; thing++) {
                    from[person * MOST_THINGS + thing] = hasBit(world.firsts[person], thing) ? 0 : LATE;
                }
            }
        }

        int firstHour(int person, int thing) {
            return from[person * MOST_THINGS + thing];
        }

        boolean has(int person, int thing, int hour) {
            return firstHour(person, thing) <= hour;
        }

        int thingsOf(int person, int hour) {
            int things = 0;
            for (int thing = 0; thing < MOST_THINGS; thing++) {
                if (has(person, thing, hour)) {
                    things |= 1 << thing;
                }
            }
            return things;
        }

        void learn(int people, int thing, int hour) {
            for (int person = 0; person < MOST_PEOPLE; person++) {
                int index = person * MOST_THINGS + thing;
                if (hasBit(people, person) && from[index] > hour) {
                    from[index] = hour;
                }
            }
        }

        boolean misses(World world, int must) {
            return !has(world.mustPerson[must], world.mustThing[must], world.mustHour[must]);
        }

        int worthMissed(World world) {
            int sum = 0;
            for (int must = 0; must < world.counts[MUST]; must++) {
                if (misses(world, must)) {
                    sum += world.worths[world.mustThing[must]];
                }
            }
            return sum;
        }
    }

    /** A plan gone through hour by hour. */
    private static final class Course {
        private final Knowledge known = new Knowledge();
        /** Who sees, whom, thing: from which hour on it is seen that he does not know it. */
        private final int[] seenFrom = new int[MOST_PEOPLE * MOST_PEOPLE * MOST_THINGS];
        private final int[] reasons = new int[MOST_DOINGS];
        /** From which hour on each is dead. */
        private final int[] deaths = new int[MOST_PEOPLE];
        private int spent = 0;
        private int done = 0;

        void nobodyDies() {
            Arrays.fill(deaths, LATE);
        }

        void drawDeaths(int seed, int frail, int people) {
            nobodyDies();
            for (int person = 0; person < people && person < MOST_PEOPLE; person++) {
                for (int hour = 1; hour < HOURS && deaths[person] == LATE; hour++) {
                    if (lot(100, seed, 100 * hour + person) < frail) {
                        deaths[person] = hour;
                    }
                }
            }
        }

        int aliveAt(int hour, World world) {
            int alive = 0;
            for (int person = 0; person < world.counts[PERSON]; person++) {
                if (deaths[person] > hour) {
                    alive |= 1 << person;
                }
            }
            return alive;
        }

        void go(World world, Plan plan) {
            known.begin(world);
            Arrays.fill(seenFrom, LATE);
            spent = 0;
            done = 0;
            for (int hour = 0; hour < HOURS; hour++) {
                int alive = aliveAt(hour, world);
                for (int doing = 0; doing < plan.size; doing++) {
                    if (plan.hour(doing) == hour) {
                        reasons[doing] = whyNot(world, plan, doing, alive);
                        if (reasons[doing] == 0) {
                            carryOut(world, plan, doing, alive);
                        }
                    } else if (plan.hour(doing) < hour) {
                        readWriting(world, plan, doing, hour, alive);
                    }
                }
            }
        }

        private int whyNot(World world, Plan plan, int doing, int alive) {
            int person = plan.person(doing);
            int hour = plan.hour(doing);
            int sort = plan.sort(doing);
            if (!hasBit(alive, person)) {
                return 5;
            }
            if (plan.isSecond(doing)) {
                return 1;
            }
            boolean talks = sort == SAY || sort == ASK;
            int there = world.standers(world.placeOf(person, hour), hour) & alive;
            if (there == 0 || talks && !hasBit(there, plan.other(doing))) {
                return 2;
            }
            if (sort != ASK && !known.has(person, plan.thing(doing), hour)) {
                return 3;
            }
            if (talks && !world.allows(person, plan.other(doing), hour, sort == ASK, alive)) {
                return 4;
            }
            return 0;
        }

        private void carryOut(World world, Plan plan, int doing, int alive) {
            int person = plan.person(doing);
            int other = plan.other(doing);
            int thing = plan.thing(doing);
            int hour = plan.hour(doing);
            int hearers = world.hearers(world.placeOf(person, hour), hour) & alive;
            done++;
            switch (plan.sort(doing)) {
                case SAY:
                    known.learn(hearers, thing, hour + 1);
                    spent++;
                    break;
                case SHOW:
                    int standers = world.standers(world.placeOf(person, hour), hour) & alive;
                    known.learn(standers, thing, hour + 1);
                    spent += world.actCost[other];
                    break;
                case LEAVE:
                    spent += LEAVE_COST;
                    break;
                default:
                    if (known.has(other, thing, hour) && world.allows(other, person, hour, false, alive)) {
                        known.learn(hearers, thing, hour + 1);
                    }
                    if (!known.has(person, thing, hour)) {
                        see(hearers, person, thing, hour + 1);
                    }
                    spent++;
                    break;
            }
        }

        private void readWriting(World world, Plan plan, int doing, int hour, int alive) {
            if (plan.sort(doing) == LEAVE && reasons[doing] == 0) {
                int place = world.placeOf(plan.person(doing), plan.hour(doing));
                known.learn(world.standers(place, hour) & alive, plan.thing(doing), hour + 1);
            }
        }

        private void see(int people, int other, int thing, int hour) {
            for (int person = 0; person < MOST_PEOPLE; person++) {
                int index = (person * MOST_PEOPLE + other) * MOST_THINGS + thing;
                if (person != other && hasBit(people, person) && seenFrom[index] > hour) {
                    seenFrom[index] = hour;
                }
            }
        }

        int seenThings(int person, int other, int hour) {
            int things = 0;
            for (int thing = 0; thing < MOST_THINGS; thing++) {
                if (seenFrom[(person * MOST_PEOPLE + other) * MOST_THINGS + thing] <= hour) {
                    things |= 1 << thing;
                }
            }
            return things;
        }

        int firstNotDone(Plan plan) {
            int first = NEVER;
            for (int doing = 0; doing < plan.size; doing++) {
                boolean isAhead = first == NEVER || plan.hour(doing) < plan.hour(first);
                if (reasons[doing] != 0 && isAhead) {
                    first = doing;
                }
            }
            return first;
        }

        /** Nobody forgets: what somebody knew at some hour is what somebody, alive or dead, knows at the end. */
        int goneThings(World world) {
            int alive = aliveAt(HOURS - 1, world);
            int ever = 0;
            int still = 0;
            for (int person = 0; person < world.counts[PERSON]; person++) {
                int things = known.thingsOf(person, HOURS);
                ever |= things;
                still |= hasBit(alive, person) ? things : 0;
            }
            return ever & ~still;
        }
    }

    /** How a thing spreads if all who know it do all they can. */
    private static final class Spread {
        private static final int AS_TOLD = 0;
        private static final int DOWNWARD = 1;
        private static final int BOTH_WAYS = 2;
        private static final int NO_LAW = 3;
        /** From which hour on each knows it; LATE: never. */
        private final int[] first = new int[MOST_PEOPLE];

        void go(World world, int thing, int knowers, int h0, int law, boolean aloud) {
            Arrays.fill(first, LATE);
            int known = 0;
            int heard = knowers;
            int written = 0;
            boolean shows = !aloud && isShown(world, thing);
            for (int hour = h0; hour <= HOURS; hour++) {
                note(heard & ~known, hour);
                known |= heard;
                if (hour < HOURS) {
                    heard = world.standersWithin(written, hour) | toldOrShown(world, known, hour, law, shows);
                    written |= aloud ? 0 : placesOf(world, known, hour);
                }
            }
        }

        private void note(int people, int hour) {
            for (int person = 0; person < MOST_PEOPLE; person++) {
                if (hasBit(people, person)) {
                    first[person] = hour;
                }
            }
        }

        private static boolean isShown(World world, int thing) {
            for (int act = 0; act < world.counts[ACT]; act++) {
                if (world.actThing[act] == thing) {
                    return true;
                }
            }
            return false;
        }

        /** Who (bits) is told or shown it at an hour by those who know it. */
        private static int toldOrShown(World world, int known, int hour, int law, boolean shows) {
            int people = 0;
            for (int person = 0; person < world.counts[PERSON]; person++) {
                if (hasBit(known, person)) {
                    int place = world.placeOf(person, hour);
                    people |= speaks(world, person, hour, law) ? world.hearers(place, hour) : 0;
                    people |= shows ? world.standers(place, hour) : 0;
                }
            }
            return people;
        }

        private static int placesOf(World world, int people, int hour) {
            int places = 0;
            for (int person = 0; person < world.counts[PERSON]; person++) {
                int place = world.placeOf(person, hour);
                if (hasBit(people, person) && place >= 0) {
                    places |= 1 << place;
                }
            }
            return places;
        }

        /** If there is somebody to whom one may say it by a law. */
        private static boolean speaks(World world, int person, int hour, int law) {
            if (law == AS_TOLD) {
                return world.sayTo(person, hour) != 0;
            }
            int others = world.standers(world.placeOf(person, hour), hour) & ~(1 << person);
            if (law != DOWNWARD) {
                return law == BOTH_WAYS && others != 0;
            }
            for (int other = 0; other < world.counts[PERSON]; other++) {
                if (hasBit(others, other) && world.ageAt(other, hour) <= world.ageAt(person, hour)) {
                    return true;
                }
            }
            return false;
        }
    }

    /**
     * The cheapest way for a person to come to know a thing. For an hour and those who know it then, the least of
     * all entries (cost, then how many doings, then the first doing by its code) is the best way on.
     */
    private static final class Cheapest {
        /** A way is its cost times this and how many doings it has. */
        private static final int COST_UNIT = 32;
        private static final int IMPOSSIBLE = 500000;
        /** An entry is its way times this and the code of its first doing. */
        private static final int WAY_UNIT = 2048;
        private static final int NO_DOING = 2047;
        private static final int SHOW_CODE = 1000;
        private static final int PERSON_CODE = 20;
        private static final int SETS = 1 << MOST_PEOPLE;

        private int person = NONE;
        private int thing = NONE;
        /** Hour by knowers: the least entry; NONE: not asked for yet. Made when it is needed first: it is large. */
        private int[] entries = new int[0];

        void forget() {
            person = NONE;
        }

        void aim(int newPerson, int newThing) {
            if (entries.length == 0) {
                entries = new int[HOURS * SETS];
            }
            if (newPerson != person || newThing != thing) {
                person = newPerson;
                thing = newThing;
                Arrays.fill(entries, NONE);
            }
        }

        /** The least way from an hour on; IMPOSSIBLE: there is none. */
        int leastWay(World world, int hour, int known) {
            return least(world, hour, known);
        }

        /** Each call inside it is at a later hour, and none is behind the last one. */
        private int least(World world, int hour, int known) {
            if (hasBit(known, person)) {
                return 0;
            }
            return hour >= HOURS ? IMPOSSIBLE : entry(world, hour, known) / WAY_UNIT;
        }

        private int entry(World world, int hour, int known) {
            int index = hour * SETS + known;
            if (index < 0 || index >= entries.length) {
                return IMPOSSIBLE * WAY_UNIT + NO_DOING;
            }
            if (entries[index] == NONE) {
                int best = least(world, hour + 1, known) * WAY_UNIT + NO_DOING;
                for (int one = 0; one < world.counts[PERSON]; one++) {
                    if (hasBit(known, one)) {
                        best = Math.min(best, entryBy(world, hour, known, one));
                    }
                }
                entries[index] = best;
            }
            return entries[index];
        }

        /** The least entry that begins with a doing of one. */
        private int entryBy(World world, int hour, int known, int one) {
            int place = world.placeOf(one, hour);
            int best = IMPOSSIBLE * WAY_UNIT + NO_DOING;
            int others = world.sayTo(one, hour);
            int heard = known | world.hearers(place, hour);
            if (others != 0 && heard != known) {
                int way = least(world, hour + 1, heard) + COST_UNIT + 1;
                best = Math.min(best, way * WAY_UNIT + PERSON_CODE * one + Integer.numberOfTrailingZeros(others));
            }
            int shown = known | world.standers(place, hour);
            for (int act = 0; act < world.counts[ACT] && shown != known; act++) {
                if (world.actThing[act] == thing) {
                    int way = least(world, hour + 1, shown) + world.actCost[act] * COST_UNIT + 1;
                    best = Math.min(best, way * WAY_UNIT + SHOW_CODE + PERSON_CODE * one + act);
                }
            }
            return best;
        }

        /** The i-th doing of the best way, with its hour; NONE: not so many. */
        int step(World world, int h0, int knowers, int i) {
            if (least(world, h0, knowers) == IMPOSSIBLE) {
                return NONE;
            }
            int known = knowers;
            int steps = 0;
            for (int hour = h0; hour < HOURS && !hasBit(known, person); hour++) {
                int code = entry(world, hour, known) % WAY_UNIT;
                if (code != NO_DOING) {
                    if (steps == i) {
                        return 10000 * hour + code;
                    }
                    steps++;
                    int place = world.placeOf(code % SHOW_CODE / PERSON_CODE, hour);
                    known |= code < SHOW_CODE ? world.hearers(place, hour) : world.standers(place, hour);
                }
            }
            return NONE;
        }
    }

    /** The rule by which all tell. */
    private static final class Rule {
        private final Knowledge known = new Knowledge();
        private int spent = 0;
        private int done = 0;
        private boolean fits = false;

        void forget() {
            fits = false;
        }

        void go(World world) {
            if (fits) {
                return;
            }
            fits = true;
            known.begin(world);
            spent = 0;
            done = 0;
            for (int hour = 0; hour < HOURS; hour++) {
                for (int i = 0; i < world.counts[PERSON]; i++) {
                    goOne(world, world.elder(i, hour), hour);
                }
            }
        }

        private void goOne(World world, int person, int hour) {
            int place = world.placeOf(person, hour);
            int hearers = world.sayTo(person, hour) == 0 ? 0 : world.hearers(place, hour);
            int most = 0;
            int people = 0;
            int thing = 0;
            int price = 0;
            for (int said = 0; said < world.counts[THING]; said++) {
                int gain = gain(world, person, said, hearers, hour);
                if (gain > most) {
                    most = gain;
                    people = hearers;
                    thing = said;
                    price = 1;
                }
            }
            for (int act = 0; act < world.counts[ACT]; act++) {
                int gain = gain(world, person, world.actThing[act], world.standers(place, hour), hour);
                if (gain > most) {
                    most = gain;
                    people = world.standers(place, hour);
                    thing = world.actThing[act];
                    price = world.actCost[act];
                }
            }
            if (most > 0) {
                known.learn(people, thing, hour + 1);
                spent += price;
                done++;
            }
        }

        /** The worths of the musts that come to be known if one tells people a thing; 0 if he does not know it. */
        private int gain(World world, int person, int thing, int people, int hour) {
            if (!known.has(person, thing, hour)) {
                return 0;
            }
            int sum = 0;
            for (int must = 0; must < world.counts[MUST]; must++) {
                int learner = world.mustPerson[must];
                boolean inTime = world.mustThing[must] == thing && world.mustHour[must] > hour;
                if (inTime && hasBit(people, learner) && !known.has(learner, thing, hour + 1)) {
                    sum += world.worths[thing];
                }
            }
            return sum;
        }
    }
}
