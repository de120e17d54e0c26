import java.util.Set;
import java.util.TreeSet;
import java.util.function.Supplier;

/** Tests that are each named by a promise (or a term) and a case; no two bear one name. */
final class Cases {
    static final int NONE = OnlyUpward.NONE;
    private static final int PROMISES = 43;
    private final Set<String> names = new TreeSet<>();
    private int wrong = 0;

    /** A call of an object with one argument that is looked at. */
    interface Call {
        int of(OnlyUpward x, int argument);
    }

    private void tell(boolean holds, String name, String fault) {
        boolean isNew = names.add(name);
        if (!holds || !isNew) {
            wrong++;
            System.out.println(name + (isNew ? fault : ": this name stands twice"));
        }
    }

    void is(String name, long got, long due) {
        tell(got == due, name, ": answered " + got + ", due is " + due);
    }

    void is(String name, boolean got, boolean due) {
        is(name, got ? 1 : 0, due ? 1 : 0);
    }

    /** More answers than one in one case. */
    void are(String name, String got, String due) {
        tell(got.equals(due), name, ": answered\n  " + got + "\ndue is\n  " + due);
    }

    void fine(String name, String text) {
        OnlyUpward x = new OnlyUpward();
        are(name, Due.read(x, text) + " " + x.place(), "0 " + NONE);
    }

    /** The fault's place is marked by ^, which is no sign of a text. */
    void fault(String name, String marked, int number) {
        int place = marked.indexOf('^');
        OnlyUpward x = new OnlyUpward();
        are(name, Due.read(x, marked.replace("^", "")) + " at " + x.place(), number + " at " + place);
    }

    /** A call that is refused: its answer, and that all is as it is in a twin that was not called. */
    void refused(String name, Supplier<OnlyUpward> made, Call call, int argument) {
        OnlyUpward x = made.get();
        int answer = call.of(x, argument);
        are(name, answer + " " + state(x), NONE + " " + state(made.get()));
    }

    /** What an argument may be: just large enough, just small enough, one too small, one too large, far too much. */
    void range(String name, Supplier<OnlyUpward> made, int low, int high, Call call) {
        is(name + " " + low + ", just large enough", call.of(made.get(), low) != NONE, true);
        if (high != low) {
            is(name + " " + high + ", just small enough", call.of(made.get(), high) != NONE, true);
        }
        refused(name + " " + (low - 1) + ", one too small", made, call, low - 1);
        refused(name + " " + (high + 1) + ", one too large", made, call, high + 1);
        refused(name + " the least int", made, call, Integer.MIN_VALUE);
        refused(name + " the greatest int", made, call, Integer.MAX_VALUE);
    }

    /** All of an object that a refused call could have changed, by fewer than 512 calls; it restores and reads, so it comes last. */
    static String state(OnlyUpward x) {
        StringBuilder s = new StringBuilder("fault " + x.place() + ", counts");
        for (int what = 0; what <= 12; what++) {
            s.append(' ').append(x.count(what));
        }
        for (int from = 20; from <= 40; from += 10) {
            for (int what = from; what < from + 6; what++) {
                s.append(' ').append(x.count(what));
            }
        }
        s.append(", plan ").append(plan(x)).append(" known");
        for (int person = 0; person < x.count(1); person++) {
            s.append(' ').append(x.knows(person, 24));
        }
        for (int slot = 0; slot < 3; slot++) {
            s.append(x.restore(slot) ? ", a slot " + plan(x) : ", an empty slot");
        }
        return s.append(", tape ").append(x.read()).append(' ').append(x.place()).toString();
    }

    /** The doings of the plan, judge() and cost(). */
    static String plan(OnlyUpward x) {
        StringBuilder s = new StringBuilder("[");
        int doings = x.count(10);
        for (int doing = 0; doing < doings; doing++) {
            s.append('(');
            for (int what = 0; what <= 5; what++) {
                s.append(what == 0 ? "" : " ").append(x.doing(doing, what));
            }
            s.append(')');
        }
        return s.append("] ").append(x.judge()).append(' ').append(x.cost()).toString();
    }

    /** Each promise has cases of its own. */
    void end(String test) {
        for (int promise = 1; promise <= PROMISES; promise++) {
            String start = "Promise " + promise + ":";
            if (names.stream().noneMatch(name -> name.startsWith(start))) {
                wrong++;
                System.out.println(start + " no case");
            }
        }
        System.out.println(test + ": " + names.size() + " cases, " + wrong + " do not hold");
        if (wrong != 0) {
            System.exit(1);
        }
    }
}
