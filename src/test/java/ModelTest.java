import java.util.Random;

/**
 * Runs of calls by fixed draws, on the class and on the model: every answer is the same, and nothing is thrown. A run ends at
 * the 512th call: "what later calls answer is free".
 */
public final class ModelTest {
    private static final int MOST_CALLS = 512;
    private static final int CALLS_OF_LAST_LOOK = 140;
    private static final int CALLS_OF_ONE_ROUND = 12;
    private static final int[] EDGES = {-1, 0, 1, 2, 3, 4, 5, 6, 7, 9, 10, 11, 20, 30, 31, 40, 41, 60, 61, 99, 100, 200, 201, 999, 1000, 9999, 10000,
            -2, 255, 256, Integer.MAX_VALUE, Integer.MIN_VALUE};

    private final Random random;
    private final SnowDays x = new SnowDays();
    private final Model model = new Model();
    private final String run;
    private int calls = 0;

    private ModelTest(int run) {
        this.random = new Random(run);
        this.run = "run " + run + ": ";
    }

    public static void main(String[] args) {
        for (int run = 0; run < 1000; run++) {
            new ModelTest(run).play();
        }
        for (int run = 1000; run < 21000; run++) {
            new ModelTest(run).playText();
        }
        Check.finish("ModelTest");
    }

    private void same(String call, int got, int want) {
        calls++;
        Check.same(run + call, got, want);
    }

    private boolean hasRoomFor(int more) {
        return calls + more <= MOST_CALLS - CALLS_OF_LAST_LOOK;
    }

    private int below(int n) {
        return random.nextInt(n);
    }

    private void feed(String text) {
        for (int k = 0; k < text.length(); k++) {
            same("feed", x.feed(text.charAt(k)), model.feed(text.charAt(k)));
        }
    }

    private void makeValley(String text) {
        feed(text);
        same("valley of " + text, x.valley(), model.valley());
        same("fault of " + text, x.fault(), model.fault());
    }

    private String blanks() {
        return " ".repeat(below(5) == 0 ? below(3) : 0);
    }

    private String soundText() {
        StringBuilder text = new StringBuilder(blanks() + "n" + blanks() + below(41));
        int most = below(3) == 0 ? 41 : 12;
        for (int k = below(below(4) == 0 ? 20 : 7); k > 0; k--) {
            text.append(blanks() + "," + blanks() + below(most));
        }
        text.append(";");
        int villages = below(10) == 0 ? 0 : 1 + below(4);
        for (int v = 0; v < villages; v++) {
            text.append("v" + below(below(3) + 5) + " " + below(most / 2) + " " + below(most / 2) + "  " + below(most) + " " + (1 + below(below(2) == 0 ? 4 : 40)) + blanks() + ";");
        }
        for (int p = villages == 0 ? 0 : below(7); p > 0; p--) {
            text.append("p" + blanks() + below(villages) + " " + below(below(2) == 0 ? 20 : 1000) + ";" + blanks());
        }
        for (int d = villages == 0 ? 0 : below(6); d > 0; d--) {
            text.append("d" + below(villages) + " " + (1 + below(below(2) == 0 ? 60 : 999)) + ";");
        }
        return text.toString();
    }

    /** A sound text with a few letters changed, taken out or put in. */
    private void playText() {
        StringBuilder text = new StringBuilder(soundText());
        String letters = "nvpd,; 0123456789x";
        for (int k = below(4); k > 0; k--) {
            int at = below(text.length() + 1);
            char letter = below(9) == 0 ? (char) below(256) : letters.charAt(below(letters.length()));
            int how = below(4);
            if (how == 0 || at == text.length()) {
                text.insert(at, letter);
            } else if (how == 1) {
                text.setCharAt(at, letter);
            } else if (how == 2) {
                text.deleteCharAt(at);
            } else {
                text.setLength(Math.max(1, at));
            }
            if (text.length() == 0) {
                text.append(letter);
            }
        }
        makeValley(text.toString());
        for (int what = 0; what <= 4; what++) {
            same("told(" + what + ")", x.told(what), model.told(what));
        }
        for (int v = 0; v < 4; v++) {
            same("village(" + v + ", 6)", x.village(v, 6), model.village(v, 6));
        }
    }

    private int edge() {
        return EDGES[below(EDGES.length)];
    }

    private int number(int n) {
        return below(12) == 0 ? edge() : below(n);
    }

    private void play() {
        if (below(5) != 0) {
            makeValley(soundText());
        }
        while (hasRoomFor(CALLS_OF_ONE_ROUND)) {
            if (below(60) == 0) {
                makeAnother(below(6) == 0 ? " ".repeat(below(3)) : below(3) == 0 ? soundText() + "q" : soundText());
            }
            doOne();
            lookAtOne();
            lookAtOne();
        }
        lookAtAll();
        Check.holds(run + calls + " calls are 512 at most", calls <= MOST_CALLS);
    }

    private void makeAnother(String text) {
        if (hasRoomFor(text.length() + CALLS_OF_ONE_ROUND)) {
            makeValley(text);
        }
    }

    private void doOne() {
        int a = number(7);
        int b = number(5);
        int n = number(62);
        switch (below(16)) {
            case 0, 1, 2 -> same("night(" + n + ")", x.night(n), model.night(n));
            case 3, 4 -> same("move", x.move(a, b), model.move(a, b));
            case 5 -> same("saw", x.saw(b, a), model.saw(b, a));
            case 6, 7 -> same("pay", x.pay(b), model.pay(b));
            case 8 -> same("lend", x.lend(b, n), model.lend(b, n));
            case 9 -> same("drift(" + n + ")", x.drift(n), model.drift(n));
            case 10, 11 -> same("undo", x.undo(), model.undo());
            case 12 -> sayOne(a);
            case 13 -> writeOne(b);
            case 14 -> imageOne(number(2));
            default -> tearOrSeed(edge());
        }
    }

    private void sayOne(int p) {
        int age = below(3) == 0 ? number(30) : Math.max(0, model.person(p, 2) + below(3) - 1);
        same("say", x.say(p, age), model.say(p, age));
    }

    private void writeOne(int v) {
        int pole = below(3) == 0 ? number(30) : Math.max(0, model.village(v, 3));
        same("write", x.write(v, pole), model.write(v, pole));
    }

    private void imageOne(int i) {
        if (below(2) == 0) {
            same("keep(" + i + ")", x.keep(i), model.keep(i));
        } else {
            same("goBack(" + i + ")", x.goBack(i), model.goBack(i));
        }
    }

    private void tearOrSeed(int v) {
        if (below(3) == 0) {
            same("tear", x.tear(), model.tear());
        } else {
            same("seed(" + v + ")", x.seed(v), model.seed(v));
        }
    }

    private void lookAtOne() {
        int a = number(7);
        int b = number(5);
        int n = number(202);
        int m = number(42);
        int what = number(11);
        switch (below(19)) {
            case 0 -> same("told(" + what + ")", x.told(what), model.told(what));
            case 1 -> same("winter(" + n + ")", x.winter(n), model.winter(n));
            case 2, 3 -> same("village", x.village(b, what % 8), model.village(b, what % 8));
            case 4, 5 -> same("person", x.person(a, what % 4), model.person(a, what % 4));
            case 6 -> same("debt", x.debt(b, what % 5), model.debt(b, what % 5));
            case 7 -> same("due", x.due(b), model.due(b));
            case 8 -> same("old", x.old(a, n), model.old(a, n));
            case 9, 10 -> same("feast", x.feast(b, a), model.feast(b, a));
            case 11 -> same("mild", x.mild(a, m, n), model.mild(a, m, n));
            case 12 -> same("mildDebts", x.mildDebts(m, n), model.mildDebts(m, n));
            case 13 -> same("older", x.older(a, b), model.older(a, b));
            case 14 -> same("chance", x.chance(b, m), model.chance(b, m));
            case 15 -> same("poles", x.poles(), model.poles());
            case 16 -> same("longest", x.longest(b), model.longest(b));
            case 17 -> same("sawn(" + what + ")", x.sawn(what - 1), model.sawn(what - 1));
            default -> askAndJudge();
        }
    }

    private void askAndJudge() {
        same("ask", x.ask(), model.ask());
        same("sawn(-1)", x.sawn(-1), model.sawn(-1));
        same("judge", x.judge(), model.judge());
    }

    private void lookAtAll() {
        for (int what = 0; what <= 10; what++) {
            same("told(" + what + ")", x.told(what), model.told(what));
        }
        for (int k = 0; k < 6; k++) {
            for (int what = 0; what <= 6; what++) {
                lookAtPart(k, what);
            }
        }
        for (int i = -2; i <= 41; i++) {
            same("sawn(" + i + ")", x.sawn(i), model.sawn(i));
        }
        askAndJudge();
    }

    private void lookAtPart(int k, int what) {
        if (k < 4) {
            same("village(" + k + ", " + what + ")", x.village(k, what), model.village(k, what));
        }
        if (what < 3) {
            same("person(" + k + ", " + what + ")", x.person(k, what), model.person(k, what));
        }
        if (what < 4 && k < 5) {
            same("debt(" + k + ", " + what + ")", x.debt(k, what), model.debt(k, what));
        }
    }
}
