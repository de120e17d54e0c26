/** DAYS by LOTS: promises 39 and 40. Seeds are looked for that have a lot just where a boundary is. */
final class EdgesOfDays {
    private static final int NONE = Cases.NONE;
    private static final int A = 0;
    private static final int B = 1;
    private static final String ONE = "place l; person a 5; thing t 4; knows a t;";
    private static final String TWO = "place l; person a 5; person b 6; thing t 4; thing u 2; knows a t;";

    private final Cases cases;

    private EdgesOfDays(Cases cases) {
        this.cases = cases;
    }

    static void look(Cases cases) {
        EdgesOfDays edges = new EdgesOfDays(cases);
        edges.frail();
        edges.lotAndFrail();
        edges.firstAndLastHour();
        edges.seeds();
        edges.lots();
        edges.deadDoNothing();
        edges.deadAreNowhere();
        edges.deadKeepWhatTheyKnew();
        edges.crowdOfTheLiving();
        edges.harm();
        edges.gone();
        edges.planStays();
        edges.kept();
        edges.keptOverTheWrap();
    }

    private static int lot(int seed, int hour, int person) {
        return Oracle.lot(100, seed, 100 * hour + person);
    }

    /** The first seed by which one of frail 1 dies at an hour, and no other one of so many at all. */
    private static int seedOfDeath(int dies, int hour, int people) {
        for (int seed = 1; seed < 10000000; seed++) {
            boolean fits = lot(seed, hour, dies) == 0;
            for (int person = 0; person < people && fits; person++) {
                for (int h = 1; h < 24 && fits; h++) {
                    boolean isOver = person == dies && h > hour;
                    fits = isOver || (lot(seed, h, person) == 0) == (person == dies && h == hour);
                }
            }
            if (fits) {
                return seed;
            }
        }
        throw new IllegalStateException("no such seed");
    }

    private void frail() {
        OnlyUpward x = Due.village(TWO);
        cases.are("Promise 39: day, FRAIL 0, nobody dies", x.day(1, 0, 0) + " " + x.day(2, 0, 0) + " " + x.day(-1, 0, 0), "3 3 3");
        cases.are("Promise 39: day, FRAIL 100, all die", x.day(1, 100, 0) + " " + x.day(2, 100, 0) + " " + x.day(-1, 100, 0), "0 0 0");
        cases.are("Promise 39: day, FRAIL -1 and 101", x.day(1, -1, 0) + " " + x.day(1, 101, 0), "-1 -1");
        cases.are("Promise 39: day, what -1 and 4", x.day(1, 50, -1) + " " + x.day(1, 50, 4), "-1 -1");
        int zero = seedOfDeath(A, 5, 1);
        cases.is("Promise 39: day, FRAIL 0 and a LOT of 0", Due.village(ONE).day(zero, 0, 0), 1);
        x.say(0, A, B, 0);
        x.leave(1, A, 0);
        cases.are("Promise 39: day, FRAIL 100, all die at HOUR 1, nobody at HOUR 0", x.day(1, 100, 3) + " " + x.day(9, 100, 3), "1 1");
    }

    private void lotAndFrail() {
        for (int seed = 1; seed <= 20; seed++) {
            int least = 100;
            for (int hour = 1; hour < 24; hour++) {
                least = Math.min(least, lot(seed, hour, A));
            }
            OnlyUpward x = Due.village(ONE);
            cases.are("Promise 39: day, the least LOT is FRAIL, the least LOT is below FRAIL, SEED " + seed, x.day(seed, least, 0) + " "
                    + x.day(seed, least + 1, 0), "1 0");
        }
    }

    private void firstAndLastHour() {
        OnlyUpward x = Due.village(ONE);
        for (int hour = 0; hour < 24; hour++) {
            x.leave(hour, A, 0);
        }
        for (int hour : new int[] {1, 2, 12, 22, 23}) {
            int seed = seedOfDeath(A, hour, 1);
            cases.are("Promise 39: day, he dies at the beginning of HOUR " + hour, x.day(seed, 1, 0) + " " + x.day(seed, 1, 3), "0 " + hour);
        }
        int zero = NONE;
        int end = NONE;
        for (int seed = 1; seed < 100000 && (zero == NONE || end == NONE); seed++) {
            boolean safe = true;
            for (int hour = 1; hour < 24; hour++) {
                safe = safe && lot(seed, hour, A) != 0;
            }
            zero = safe && zero == NONE && lot(seed, 0, A) == 0 ? seed : zero;
            end = safe && end == NONE && lot(seed, 24, A) == 0 ? seed : end;
        }
        cases.are("Promise 39: day, no LOT is drawn at HOUR 0", x.day(zero, 1, 0) + " " + x.day(zero, 1, 3), "1 24");
        cases.are("Promise 39: day, HOURS are 0 .. 23: none is drawn behind 23", x.day(end, 1, 0) + " " + x.day(end, 1, 3), "1 24");
    }

    private void seeds() {
        StringBuilder ten = new StringBuilder("thing t 1;");
        for (int i = 0; i < 10; i++) {
            ten.append("person p").append((char) ('a' + i)).append(" 1;");
        }
        OnlyUpward x = Due.village(ten.toString());
        int[] seeds = {0, 1, -1, 17, Integer.MAX_VALUE, Integer.MIN_VALUE, Integer.MIN_VALUE + 1, 65536, 32768, -32768, 1103515245, 12345};
        for (int seed : seeds) {
            for (int frail : new int[] {1, 3, 10}) {
                int alive = 0;
                for (int person = 0; person < 10; person++) {
                    boolean lives = true;
                    for (int hour = 1; hour < 24; hour++) {
                        lives = lives && lot(seed, hour, person) >= frail;
                    }
                    alive |= lives ? 1 << person : 0;
                }
                cases.is("Promise 39: day, who of ten is alive, SEED " + seed + ", FRAIL " + frail, x.day(seed, frail, 0), alive);
            }
        }
    }

    /** Reckoned by hand with ints that do not wrap: LOT 100 of SEED 17, which 100. */
    private void lots() {
        long h = 12345;
        h = h ^ h >> 15;
        h = ((h ^ 100) * 1103515245L + 12345) % 4294967296L;
        h = h ^ h / 32768;
        int due = (int) (h / 2 % 100);
        cases.is("Term III, LOT: SEED 17 is all the bits of 17", lot(17, 1, 0), due);
        int least = 100;
        for (int hour = 1; hour < 24; hour++) {
            least = Math.min(least, lot(17, hour, 0));
        }
        OnlyUpward x = Due.village(ONE);
        cases.are("Term III, LOT: below FRAIL", x.day(17, least, 0) + " " + x.day(17, least + 1, 0), "1 0");
    }

    private void deadDoNothing() {
        int seed = seedOfDeath(A, 7, 2);
        for (int hour = 6; hour <= 8; hour++) {
            OnlyUpward say = Due.village(TWO);
            say.say(hour, A, B, 0);
            OnlyUpward show = Due.village(TWO + "act s t 3;");
            show.show(hour, A, 0);
            OnlyUpward leave = Due.village(TWO);
            leave.leave(hour, A, 0);
            OnlyUpward ask = Due.village(TWO);
            ask.ask(hour, A, B, 0);
            int due = hour < 7 ? 1 : 0;
            cases.are("Term III, DAY: he dies at HOUR 7, what he does at HOUR " + hour, say.day(seed, 1, 3) + " " + show.day(seed, 1, 3) + " "
                    + leave.day(seed, 1, 3) + " " + ask.day(seed, 1, 3), due + " " + due + " " + due + " " + due);
        }
        OnlyUpward other = Due.village(TWO + "knows b u; act s u 1;");
        other.show(8, B, 0);
        cases.is("Term III, DAY: another one goes on", other.day(seed, 1, 3), 1);
    }

    private void deadAreNowhere() {
        int seed = seedOfDeath(B, 7, 2);
        for (int hour = 6; hour <= 8; hour++) {
            OnlyUpward say = Due.village(TWO);
            say.say(hour, A, B, 0);
            OnlyUpward ask = Due.village(TWO);
            ask.ask(hour, A, B, 0);
            int due = hour < 7 ? 1 : 0;
            cases.are("Term III, DAY: she dies at HOUR 7, what is said to her, asked of her at HOUR " + hour, say.day(seed, 1, 3) + " "
                    + ask.day(seed, 1, 3), due + " " + due);
        }
        for (int hour = 5; hour <= 7; hour++) {
            OnlyUpward show = Due.village(TWO + "act s t 3; must b t 23;");
            show.show(hour, A, 0);
            cases.is("Term III, DAY: she dies at HOUR 7, HARM by what is shown at HOUR " + hour, show.day(seed, 1, 2), hour < 7 ? 0 : 4);
            OnlyUpward leave = Due.village(TWO + "must b t 23;");
            leave.leave(hour, A, 0);
            cases.is("Term III, DAY: she dies at HOUR 7, HARM by what is left at HOUR " + hour, leave.day(seed, 1, 2), hour < 6 ? 0 : 4);
        }
        OnlyUpward heard = Due.village("place l; place m; thin l m; person a 5; person b 6; person c 7; thing t 4; knows a t; at b m 0 23;"
                + "must b t 23;");
        heard.say(7, A, 2, 0);
        cases.are("Term III, DAY: she dies at HOUR 7, she does not hear it through a THIN wall", heard.harm() + " "
                + heard.day(seedOfDeath(B, 7, 3), 1, 2), "0 4");
    }

    private void deadKeepWhatTheyKnew() {
        int seed = seedOfDeath(B, 7, 2);
        for (int by = 6; by <= 8; by++) {
            OnlyUpward x = Due.village(TWO + "must b t " + by + ";");
            x.say(6, A, B, 0);
            cases.is("Term III, DAY: she dies at HOUR 7, told at HOUR 6, a MUST by HOUR " + by, x.day(seed, 1, 2), by < 7 ? 4 : 0);
        }
        OnlyUpward first = Due.village(TWO + "knows b u; must b u 0; must b u 23;");
        cases.is("Term III, DAY: she keeps what she knew at first", first.day(seed, 1, 2), 0);
    }

    private void crowdOfTheLiving() {
        int seed = seedOfDeath(2, 7, 3);
        String three = "place l; person a 5; person b 6; person c 7; thing t 4; knows a t;";
        for (int hour = 6; hour <= 7; hour++) {
            OnlyUpward two = Due.village(three + "say if crowd == 2; ask if crowd == 2;");
            two.say(hour, A, B, 0);
            two.ask(hour, B, A, 0);
            cases.is("Term III, DAY: a crowd of two, the third one dies at HOUR 7, at HOUR " + hour, two.day(seed, 1, 3), hour < 7 ? 0 : 2);
        }
        OnlyUpward answer = Due.village(three + "say if crowd == 2; must b t 23;");
        answer.ask(7, B, A, 0);
        cases.are("Term III, DAY: an ASK is answered by the LAW and the crowd of the living", answer.harm() + " " + answer.day(seed, 1, 2), "4 0");
    }

    private void harm() {
        OnlyUpward x = Due.village(TWO + "must b t 5; must b u 5; must a t 0; must a u 23;");
        cases.are("Promise 39: day, HARM without a DOING, of the dead, too", x.day(1, 0, 2) + " " + x.day(1, 100, 2), "8 8");
        x.say(0, A, B, 0);
        cases.are("Promise 39: day, HARM with THE PLAN", x.day(1, 0, 2) + " " + x.day(1, 100, 2), "4 4");
        x.drop(0);
        x.say(1, A, B, 0);
        cases.are("Promise 39: day, HARM, all die at HOUR 1", x.day(1, 0, 2) + " " + x.day(1, 100, 2), "4 8");
        cases.is("Promise 39: day, HARM without MUSTS", Due.village(TWO).day(1, 100, 2), 0);
    }

    private void gone() {
        OnlyUpward x = Due.village(TWO + "thing v 1; knows b v; knows a v;");
        cases.is("Promise 39: day, GONE: nobody dies", x.day(1, 0, 1), 0);
        cases.is("Promise 39: day, GONE: all die, but not what nobody knew", x.day(1, 100, 1), 1 + 4);
        int a = seedOfDeath(A, 7, 2);
        int b = seedOfDeath(B, 7, 2);
        cases.is("Promise 39: day, GONE: what he alone knew", x.day(a, 1, 1), 1);
        cases.is("Promise 39: day, GONE: what another one knows, too", x.day(b, 1, 1), 0);
        x.say(6, A, B, 0);
        cases.is("Promise 39: day, GONE: told in the HOUR ahead of his death", x.day(a, 1, 1), 0);
        x.drop(0);
        x.say(7, A, B, 0);
        cases.is("Promise 39: day, GONE: not told in the HOUR of his death", x.day(a, 1, 1), 1);
        x.drop(0);
        x.leave(6, A, 0);
        cases.is("Promise 39: day, GONE: read behind his death", x.day(a, 1, 1), 0);
        OnlyUpward third = Due.village("place l; person a 5; person b 6; person c 7; thing t 4; knows c t;");
        cases.is("Promise 39: day, GONE: what the last one alone knew", third.day(seedOfDeath(2, 7, 3), 1, 1), 1);
        cases.is("Promise 39: day, GONE: what the last one knows, who is alive", third.day(seedOfDeath(A, 7, 3), 1, 1), 0);
        int last = seedOfDeath(A, 23, 2);
        x.drop(0);
        x.leave(22, A, 0);
        cases.is("Promise 39: day, GONE: read in HOUR 23, known at the end", x.day(last, 1, 1), 0);
        x.drop(0);
        cases.is("Promise 39: day, GONE: he dies at HOUR 23", x.day(last, 1, 1), 1);
    }

    private void planStays() {
        OnlyUpward x = Due.village(TWO);
        x.say(5, A, B, 0);
        String before = Cases.plan(x);
        x.day(1, 100, 3);
        x.kept(1, 50, 100, 0);
        cases.are("Promise 39: day, THE PLAN and what comes of it stay", Cases.plan(x) + " " + x.when(B, 0), before + " 6");
        cases.is("Promise 39: day, no DOINGS", Due.village(TWO).day(1, 0, 3), 0);
        OnlyUpward full = Due.village(TWO);
        for (int i = 0; i < 30; i++) {
            full.ask(i % 24, i < 24 ? A : B, i < 24 ? B : A, 0);
        }
        cases.are("Promise 39: day, thirty DOINGS", full.day(1, 0, 3) + " " + full.day(1, 100, 3), "30 2");
    }

    private void kept() {
        OnlyUpward x = Due.village(TWO);
        cases.are("Promise 40: kept, one DAY", x.kept(1, 1, 0, 0) + " " + x.kept(1, 1, 100, 0), "1 0");
        cases.are("Promise 40: kept, fifty DAYS", x.kept(1, 50, 0, 0) + " " + x.kept(1, 50, 100, 0), "50 0");
        cases.are("Promise 40: kept, what nobody knew is not GONE", x.kept(1, 50, 100, 1) + " " + x.kept(1, 50, 0, 1), "50 50");
        cases.are("Promise 40: kept, k 0, 51, -1", x.kept(1, 0, 0, 0) + " " + x.kept(1, 51, 0, 0) + " " + x.kept(1, -1, 0, 0), "-1 -1 -1");
        int seed = seedOfDeath(A, 7, 2);
        cases.is("Promise 40: kept, the first SEED counts", x.kept(seed, 1, 1, 0), 0);
        cases.is("Promise 40: kept, the last SEED counts", x.kept(seed - 1, 2, 1, 0) - x.kept(seed - 1, 1, 1, 0), 0);
        cases.is("Promise 40: kept, none behind the last SEED", x.kept(seed + 1, 49, 1, 0), x.kept(seed, 50, 1, 0));
    }

    private void keptOverTheWrap() {
        int seed = Integer.MAX_VALUE - 24;
        for (int frail = 1; frail <= 4; frail++) {
            OnlyUpward x = Due.village(TWO);
            int sum = 0;
            for (int i = 0; i < 50; i++) {
                sum += (x.day(seed + i, frail, 1) & 1) == 0 ? 1 : 0;
            }
            cases.is("Promise 40: kept, SEEDS wrap behind the greatest int, FRAIL " + frail, x.kept(seed, 50, frail, 0), sum);
        }
        OnlyUpward two = Due.village(TWO);
        for (int frail = 1; frail <= 7; frail++) {
            cases.is("Promise 40: kept, the greatest int and then the least one, FRAIL " + frail, two.kept(Integer.MAX_VALUE, 2, frail, 0),
                    two.kept(Integer.MAX_VALUE, 1, frail, 0) + two.kept(Integer.MIN_VALUE, 1, frail, 0));
        }
    }
}
