/** Counts the answers that are not the ones that are due, and helps to feed texts. */
final class Due {
    private final String name;
    private int asked = 0;
    private int wrong = 0;

    Due(String name) {
        this.name = name;
    }

    void is(String what, int got, int want) {
        asked++;
        if (got != want) {
            wrong++;
            System.out.println(name + ": " + what + " answered " + got + ", due is " + want);
        }
    }

    void holds(String what, boolean is) {
        is(what, is ? 1 : 0, 1);
    }

    void end() {
        System.out.println(name + ": " + asked + " asked, " + wrong + " wrong");
        if (wrong != 0 || asked == 0) System.exit(1);
    }

    /** THE TAPE becomes this text, of 96 bytes at most. */
    static void tape(WreckSky x, String t) {
        x.trim(0);
        for (int i = 0; i < t.length(); i += 12) {
            x.feed(four(t, i), four(t, i + 4), four(t, i + 8));
        }
        x.trim(t.length());
    }

    /** What text() answers for it. */
    static int text(WreckSky x, String t) {
        tape(x, t);
        return x.text();
    }

    private static int four(String t, int from) {
        int v = 0;
        for (int i = from; i < from + 4; i++) {
            v = v << 8 | (i < t.length() ? t.charAt(i) : ' ');
        }
        return v;
    }
}
