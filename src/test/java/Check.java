/** What the tests share: comparing answers, and making a valley from a text. */
final class Check {
    static final int NONE = SnowDays.NONE, UNKNOWN = SnowDays.UNKNOWN, OUTSIDE = SnowDays.OUTSIDE, NOT = SnowDays.NOT, FULL = SnowDays.FULL;

    /** Villages fall from 4, 5, 15 inches on; the winter's falls are 01101, 01101, 00001. */
    static final String SLOPE = "n0,5,12,2,20;v0 1 4 9 4;v3 2 2 6 3;v10 5 5 5 2;p0 20;p1 20;p2 7;d0 30;d1 12;d2 40;";

    private static int wrong = 0;
    private static int asked = 0;

    private Check() {
    }

    static void same(String call, int got, int want) {
        asked++;
        if (got != want) {
            wrong++;
            System.out.println(call + " answered " + got + ", due is " + want);
        }
    }

    static void holds(String what, boolean is) {
        asked++;
        if (!is) {
            wrong++;
            System.out.println("does not hold: " + what);
        }
    }

    static void feed(SnowDays x, String text) {
        for (int k = 0; k < text.length(); k++) {
            x.feed(text.charAt(k));
        }
    }

    static int valley(SnowDays x, String text) {
        feed(x, text);
        return x.valley();
    }

    static SnowDays of(String text) {
        SnowDays x = new SnowDays();
        holds("a sound text: " + text, valley(x, text) >= 0);
        return x;
    }

    static void nights(SnowDays x, int n) {
        for (int left = n; left > 0; left -= 60) {
            x.night(Math.min(left, 60));
        }
    }

    static void finish(String test) {
        System.out.println(test + ": " + asked + " answers, " + wrong + " wrong");
        if (wrong != 0) {
            System.exit(1);
        }
    }
}
