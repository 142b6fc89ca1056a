import java.util.Random;

/** Runs of calls by fixed draws, on the class and on the model: every answer is the same, and nothing is thrown. */
public final class ModelTest {
    private static final int[] EDGES = {-1, 0, 1, 2, 3, 4, 5, 6, 7, 9, 10, 11, 20, 30, 31, 40, 41, 60, 61, 99, 100, 200, 201, 999, 1000, 9999, 10000,
            -2, 255, 256, Integer.MAX_VALUE, Integer.MIN_VALUE};

    private final Random random;
    private final SnowDays x = new SnowDays();
    private final Model model = new Model();
    private final String run;

    private ModelTest(int run) {
        this.random = new Random(run);
        this.run = "run " + run + ": ";
    }

    public static void main(String[] args) {
        for (int run = 0; run < 400; run++) {
            new ModelTest(run).play();
        }
        for (int run = 1000; run < 21000; run++) {
            new ModelTest(run).playText();
        }
        Check.finish("ModelTest");
    }

    private int below(int n) {
        return random.nextInt(n);
    }

    private void feed(String text) {
        for (int k = 0; k < text.length(); k++) {
            Check.same(run + "feed", x.feed(text.charAt(k)), model.feed(text.charAt(k)));
        }
    }

    private void makeValley(String text) {
        feed(text);
        Check.same(run + "valley of " + text, x.valley(), model.valley());
        Check.same(run + "fault of " + text, x.fault(), model.fault());
    }

    private String blanks() {
        return " ".repeat(below(5) == 0 ? below(3) : 0);
    }

    private String soundText() {
        StringBuilder text = new StringBuilder(blanks() + "n" + blanks() + below(41));
        int most = below(3) == 0 ? 41 : 12;
        for (int k = below(below(4) == 0 ? 20 : 7); k > 0; k--) {
            text.append(blanks() + "," + blanks() + below(most));
        }
        text.append(";");
        int villages = below(10) == 0 ? 0 : 1 + below(4);
        for (int v = 0; v < villages; v++) {
            text.append("v" + below(below(3) + 5) + " " + below(most / 2) + " " + below(most / 2) + "  " + below(most) + " " + (1 + below(below(2) == 0 ? 4 : 40)) + blanks() + ";");
        }
        for (int p = villages == 0 ? 0 : below(7); p > 0; p--) {
            text.append("p" + blanks() + below(villages) + " " + below(below(2) == 0 ? 20 : 1000) + ";" + blanks());
        }
        for (int d = villages == 0 ? 0 : below(6); d > 0; d--) {
            text.append("d" + below(villages) + " " + (1 + below(below(2) == 0 ? 60 : 999)) + ";");
        }
        return text.toString();
    }

    /** A sound text with a few letters changed, taken out or put in. */
    private void playText() {
        StringBuilder text = new StringBuilder(soundText());
        String letters = "nvpd,; 0123456789x";
        for (int k = below(4); k > 0; k--) {
            int at = below(text.length() + 1);
            char letter = below(9) == 0 ? (char) below(256) : letters.charAt(below(letters.length()));
            int how = below(4);
            if (how == 0 || at == text.length()) {
                text.insert(at, letter);
            } else if (how == 1) {
                text.setCharAt(at, letter);
            } else if (how == 2) {
                text.deleteCharAt(at);
            } else {
                text.setLength(Math.max(1, at));
            }
            if (text.length() == 0) {
                text.append(letter);
            }
        }
        makeValley(text.toString());
        for (int what = 0; what <= 4; what++) {
            Check.same(run + "told(" + what + ")", x.told(what), model.told(what));
        }
        for (int v = 0; v < 4; v++) {
            Check.same(run + "village(" + v + ", 6)", x.village(v, 6), model.village(v, 6));
        }
    }

    private int edge() {
        return EDGES[below(EDGES.length)];
    }

    private int number(int n) {
        return below(12) == 0 ? edge() : below(n);
    }

    private void play() {
        if (below(5) != 0) {
            makeValley(soundText());
        }
        int calls = 260;
        for (int k = 0; k < calls; k++) {
            if (below(90) == 0) {
                makeValley(below(6) == 0 ? " ".repeat(below(3)) : below(3) == 0 ? soundText() + "q" : soundText());
                k += 120;
            }
            doOne();
            lookAtOne();
            lookAtOne();
        }
        lookAtAll();
    }

    private void doOne() {
        int a = number(7);
        int b = number(5);
        int n = number(62);
        switch (below(16)) {
            case 0, 1, 2 -> Check.same(run + "night(" + n + ")", x.night(n), model.night(n));
            case 3, 4 -> Check.same(run + "move", x.move(a, b), model.move(a, b));
            case 5 -> Check.same(run + "saw", x.saw(b, a), model.saw(b, a));
            case 6, 7 -> Check.same(run + "pay", x.pay(b), model.pay(b));
            case 8 -> Check.same(run + "lend", x.lend(b, n), model.lend(b, n));
            case 9 -> Check.same(run + "drift(" + n + ")", x.drift(n), model.drift(n));
            case 10, 11 -> Check.same(run + "undo", x.undo(), model.undo());
            case 12 -> sayOne(a);
            case 13 -> writeOne(b);
            case 14 -> imageOne(number(2));
            default -> tearOrSeed(edge());
        }
    }

    private void sayOne(int p) {
        int age = below(3) == 0 ? number(30) : Math.max(0, model.person(p, 2) + below(3) - 1);
        Check.same(run + "say", x.say(p, age), model.say(p, age));
    }

    private void writeOne(int v) {
        int pole = below(3) == 0 ? number(30) : Math.max(0, model.village(v, 3));
        Check.same(run + "write", x.write(v, pole), model.write(v, pole));
    }

    private void imageOne(int i) {
        if (below(2) == 0) {
            Check.same(run + "keep(" + i + ")", x.keep(i), model.keep(i));
        } else {
            Check.same(run + "goBack(" + i + ")", x.goBack(i), model.goBack(i));
        }
    }

    private void tearOrSeed(int v) {
        if (below(3) == 0) {
            Check.same(run + "tear", x.tear(), model.tear());
        } else {
            Check.same(run + "seed(" + v + ")", x.seed(v), model.seed(v));
        }
    }

    private void lookAtOne() {
        int a = number(7);
        int b = number(5);
        int n = number(202);
        int m = number(42);
        int what = number(11);
        switch (below(19)) {
            case 0 -> Check.same(run + "told(" + what + ")", x.told(what), model.told(what));
            case 1 -> Check.same(run + "winter(" + n + ")", x.winter(n), model.winter(n));
            case 2, 3 -> Check.same(run + "village", x.village(b, what % 8), model.village(b, what % 8));
            case 4, 5 -> Check.same(run + "person", x.person(a, what % 4), model.person(a, what % 4));
            case 6 -> Check.same(run + "debt", x.debt(b, what % 5), model.debt(b, what % 5));
            case 7 -> Check.same(run + "due", x.due(b), model.due(b));
            case 8 -> Check.same(run + "old", x.old(a, n), model.old(a, n));
            case 9, 10 -> Check.same(run + "feast", x.feast(b, a), model.feast(b, a));
            case 11 -> Check.same(run + "mild", x.mild(a, m, n), model.mild(a, m, n));
            case 12 -> Check.same(run + "mildDebts", x.mildDebts(m, n), model.mildDebts(m, n));
            case 13 -> Check.same(run + "older", x.older(a, b), model.older(a, b));
            case 14 -> Check.same(run + "chance", x.chance(b, m), model.chance(b, m));
            case 15 -> Check.same(run + "poles", x.poles(), model.poles());
            case 16 -> Check.same(run + "longest", x.longest(b), model.longest(b));
            case 17 -> Check.same(run + "sawn(" + what + ")", x.sawn(what - 1), model.sawn(what - 1));
            default -> askAndJudge();
        }
    }

    private void askAndJudge() {
        Check.same(run + "ask", x.ask(), model.ask());
        Check.same(run + "sawn(-1)", x.sawn(-1), model.sawn(-1));
        Check.same(run + "judge", x.judge(), model.judge());
    }

    private void lookAtAll() {
        for (int what = -1; what <= 11; what++) {
            Check.same(run + "told(" + what + ")", x.told(what), model.told(what));
            for (int k = -1; k <= 6; k++) {
                Check.same(run + "village(" + k + ", " + what + ")", x.village(k, what), model.village(k, what));
                Check.same(run + "person(" + k + ", " + what + ")", x.person(k, what), model.person(k, what));
                Check.same(run + "debt(" + k + ", " + what + ")", x.debt(k, what), model.debt(k, what));
            }
        }
        for (int i = -2; i <= 41; i++) {
            Check.same(run + "sawn(" + i + ")", x.sawn(i), model.sawn(i));
        }
        askAndJudge();
    }
}
