/** Counts and prints the answers that are not as due, and feeds texts. */
final class Due {
    private int wrong = 0;
    private int all = 0;

    void is(String call, long got, long want) {
        all++;
        if (got != want) {
            wrong++;
            if (wrong <= 30) {
                System.out.println(call + " answered " + got + ", due is " + want);
            }
        }
    }

    void is(String call, boolean got, boolean want) {
        is(call, got ? 1 : 0, want ? 1 : 0);
    }

    void end(String test) {
        System.out.println(test + ": " + all + " answers, " + wrong + " not as due");
        if (wrong != 0) {
            System.exit(1);
        }
    }

    /** Five ints of four bytes each, the highest first. */
    static int[] five(String text, int from) {
        int[] five = new int[5];
        for (int i = 0; i < 20; i++) {
            int sign = from + i < text.length() ? text.charAt(from + i) : ' ';
            five[i / 4] |= sign << 24 - 8 * (i % 4);
        }
        return five;
    }

    /** Puts a text on the tape behind what is there. */
    static void feed(OnlyUpward x, String text) {
        for (int from = 0; from < text.length(); from += 20) {
            int[] f = five(text, from);
            x.feed(f[0], f[1], f[2], f[3], f[4]);
        }
        x.back((20 - text.length() % 20) % 20);
    }

    static int read(OnlyUpward x, String text) {
        feed(x, text);
        return x.read();
    }

    static OnlyUpward village(String text) {
        OnlyUpward x = new OnlyUpward();
        int fault = read(x, text);
        if (fault != 0) {
            throw new IllegalStateException("fault " + fault + " at " + x.place() + " of " + text);
        }
        return x;
    }
}
