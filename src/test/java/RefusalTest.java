import java.util.ArrayList;
import java.util.List;
import java.util.function.Supplier;
import java.util.function.ToIntFunction;

/**
 * "REFUSALS, of several the first in this order: UNKNOWN, OUTSIDE, NOT, FULL"; "What is refused changes nothing"; what is tried or
 * looked at changes nothing. Each call is made on one of two objects that lived alike; all that can be seen of both is then the same.
 */
public final class RefusalTest {
    private static final int LEAST = Integer.MIN_VALUE, GREATEST = Integer.MAX_VALUE;
    private static final int UNKNOWN = Check.UNKNOWN, OUTSIDE = Check.OUTSIDE, NOT = Check.NOT, FULL = Check.FULL;

    private record Call(String name, int due, ToIntFunction<SnowDays> ask) {
    }

    private static final List<Call> calls = new ArrayList<>();

    public static void main(String[] args) {
        unknownOnes();
        outsideOnes();
        notNow();
        unknownAheadOfOutside();
        outsideAheadOfNot();
        changeNothing("in a valley", RefusalTest::lived);

        withoutValley();
        changeNothing("without a valley", SnowDays::new);

        full();
        changeNothing("all full", RefusalTest::fullOfAll);

        fullNights();
        changeNothing("above 9000 nights", RefusalTest::pastAllNights);

        noOtherRefusals();
        lookedAt();
        changeNothing("looked at", RefusalTest::lived);

        faults();
        Check.finish("RefusalTest");
    }

    private static void due(String name, int due, ToIntFunction<SnowDays> ask) {
        calls.add(new Call(name, due, ask));
    }

    /** Numbers that no village, person or debt has, of so many. */
    private static int[] strangers(int many) {
        return new int[] {LEAST, -1, many, many + 1, GREATEST};
    }

    private static int[] beyond(int least, int most) {
        return new int[] {LEAST, least - 1, most + 1, GREATEST};
    }

    private static void unknownOnes() {
        for (int v : strangers(3)) {
            due("village(" + v + ", 0)", UNKNOWN, x -> x.village(v, 0));
            due("move(0, " + v + ")", UNKNOWN, x -> x.move(0, v));
            due("saw(" + v + ", 1)", UNKNOWN, x -> x.saw(v, 1));
            due("feast(" + v + ", 0)", UNKNOWN, x -> x.feast(v, 0));
            due("feast(0, " + v + ")", UNKNOWN, x -> x.feast(0, v));
            due("feast, both " + v, UNKNOWN, x -> x.feast(v, v));
            due("older(0, " + v + ")", UNKNOWN, x -> x.older(0, v));
            due("longest(" + v + ")", UNKNOWN, x -> x.longest(v));
            due("write(" + v + ", 1)", UNKNOWN, x -> x.write(v, 1));
        }
        for (int v = 0; v < 3; v++) {
            int twice = v;
            due("one twice, where two are asked: feast " + v, UNKNOWN, x -> x.feast(twice, twice));
        }
        for (int p : strangers(4)) {
            due("person(" + p + ", 0)", UNKNOWN, x -> x.person(p, 0));
            due("move(" + p + ", 0)", UNKNOWN, x -> x.move(p, 0));
            due("old(" + p + ", 0)", UNKNOWN, x -> x.old(p, 0));
            due("mild(" + p + ", 1, 1)", UNKNOWN, x -> x.mild(p, 1, 1));
            due("older(" + p + ", 0)", UNKNOWN, x -> x.older(p, 0));
            due("say(" + p + ", 1)", UNKNOWN, x -> x.say(p, 1));
        }
        for (int d : strangers(5)) {
            due("debt(" + d + ", 0)", UNKNOWN, x -> x.debt(d, 0));
            due("pay(" + d + ")", UNKNOWN, x -> x.pay(d));
            due("lend(" + d + ", 1)", UNKNOWN, x -> x.lend(d, 1));
            due("due(" + d + ")", UNKNOWN, x -> x.due(d));
            due("chance(" + d + ", 1)", UNKNOWN, x -> x.chance(d, 1));
        }
        for (int i : strangers(2)) {
            due("keep(" + i + ")", UNKNOWN, x -> x.keep(i));
            due("goBack(" + i + ")", UNKNOWN, x -> x.goBack(i));
        }
    }

    private static void outsideOnes() {
        outside("feed, 0 .. 255", 0, 255, (x, n) -> x.feed(n));
        outside("told, 0 .. 10", 0, 10, (x, n) -> x.told(n));
        outside("winter, 0 .. 9999", 0, 9999, (x, n) -> x.winter(n));
        outside("village, 0 .. 6", 0, 6, (x, n) -> x.village(0, n));
        outside("person, 0 .. 2", 0, 2, (x, n) -> x.person(0, n));
        outside("debt, 0 .. 3", 0, 3, (x, n) -> x.debt(0, n));
        outside("night, 1 .. 60", 1, 60, (x, n) -> x.night(n));
        outside("saw, 1 .. 99", 1, 99, (x, n) -> x.saw(0, n));
        outside("lend, 1 .. 999", 1, 999, (x, n) -> x.lend(0, n));
        outside("drift, 1 .. 60", 1, 60, (x, n) -> x.drift(n));
        outside("old, 0 .. 200", 0, 200, (x, n) -> x.old(0, n));
        outside("mild by m, 0 .. 40", 0, 40, (x, n) -> x.mild(0, n, 1));
        outside("mild for n, 0 .. 200", 0, 200, (x, n) -> x.mild(0, 1, n));
        outside("mildDebts by m, 0 .. 40", 0, 40, (x, n) -> x.mildDebts(n, 1));
        outside("mildDebts for n, 0 .. 200", 0, 200, (x, n) -> x.mildDebts(1, n));
        outside("chance, 0 .. 30", 0, 30, (x, n) -> x.chance(1, n));
        outside("say, 0 .. 9999", 0, 9999, (x, n) -> x.say(0, n));
        outside("write, 0 .. 9999", 0, 9999, (x, n) -> x.write(0, n));
        due("seed, 0 .. 2147483647: -1", OUTSIDE, x -> x.seed(-1));
        due("seed, 0 .. 2147483647: the least", OUTSIDE, x -> x.seed(LEAST));
    }

    private interface OfNumber {
        int ask(SnowDays x, int n);
    }

    private static void outside(String name, int least, int most, OfNumber of) {
        for (int n : beyond(least, most)) {
            due(name + ": " + n, OUTSIDE, x -> of.ask(x, n));
        }
        SnowDays within = lived();
        Check.holds(name + ": the least is within", of.ask(within, least) != OUTSIDE);
        Check.holds(name + ": the most is within", of.ask(within, most) != OUTSIDE);
    }

    private static void notNow() {
        due("pay: it is PAID", NOT, x -> x.pay(0));
        due("pay: it is not due", NOT, x -> x.pay(1));
        due("lend: it is not PAID", NOT, x -> x.lend(1, 1));
        due("lend: it is due, and not PAID", NOT, x -> x.lend(3, 1));
        due("due: it is PAID", NOT, x -> x.due(0));
        due("chance: it is PAID", NOT, x -> x.chance(0, 1));
        due("goBack: it was not kept", NOT, x -> x.goBack(0));
    }

    private static void unknownAheadOfOutside() {
        for (int n : new int[] {LEAST, -1, 10000, GREATEST}) {
            due("village, UNKNOWN first", UNKNOWN, x -> x.village(3, n));
            due("person, UNKNOWN first", UNKNOWN, x -> x.person(4, n));
            due("debt, UNKNOWN first", UNKNOWN, x -> x.debt(5, n));
            due("saw, UNKNOWN first", UNKNOWN, x -> x.saw(3, n));
            due("lend, UNKNOWN first", UNKNOWN, x -> x.lend(5, n));
            due("old, UNKNOWN first", UNKNOWN, x -> x.old(4, n));
            due("mild by m, UNKNOWN first", UNKNOWN, x -> x.mild(4, n, 1));
            due("mild for n, UNKNOWN first", UNKNOWN, x -> x.mild(4, 1, n));
            due("mild, UNKNOWN first", UNKNOWN, x -> x.mild(4, n, n));
            due("chance, UNKNOWN first", UNKNOWN, x -> x.chance(5, n));
            due("say, UNKNOWN first", UNKNOWN, x -> x.say(4, n));
            due("write, UNKNOWN first", UNKNOWN, x -> x.write(3, n));
            due("mild, both OUTSIDE", OUTSIDE, x -> x.mild(0, n, n));
            due("mildDebts, both OUTSIDE", OUTSIDE, x -> x.mildDebts(n, n));
        }
    }

    private static void outsideAheadOfNot() {
        due("lend(1, 0), not PAID", OUTSIDE, x -> x.lend(1, 0));
        due("lend(1, 1000), not PAID", OUTSIDE, x -> x.lend(1, 1000));
        due("chance(0, -1), PAID", OUTSIDE, x -> x.chance(0, -1));
        due("chance(0, 31), PAID", OUTSIDE, x -> x.chance(0, 31));
    }

    private static void withoutValley() {
        for (int k : strangers(0)) {
            due("village", UNKNOWN, x -> x.village(k, 0));
            due("person", UNKNOWN, x -> x.person(k, 0));
            due("debt", UNKNOWN, x -> x.debt(k, 0));
            due("move", UNKNOWN, x -> x.move(k, k));
            due("saw", UNKNOWN, x -> x.saw(k, 1));
            due("pay", UNKNOWN, x -> x.pay(k));
            due("lend", UNKNOWN, x -> x.lend(k, 1));
            due("due", UNKNOWN, x -> x.due(k));
            due("old", UNKNOWN, x -> x.old(k, 1));
            due("feast", UNKNOWN, x -> x.feast(k, 1));
            due("mild", UNKNOWN, x -> x.mild(k, 1, 1));
            due("older", UNKNOWN, x -> x.older(k, 0));
            due("chance", UNKNOWN, x -> x.chance(k, 1));
            due("longest", UNKNOWN, x -> x.longest(k));
            due("say", UNKNOWN, x -> x.say(k, 1));
            due("write", UNKNOWN, x -> x.write(k, 1));
        }
        for (int n : new int[] {1, 60}) {
            due("night(" + n + "), NOT: no VALLEY", NOT, x -> x.night(n));
            due("drift(" + n + "), NOT: no VALLEY", NOT, x -> x.drift(n));
        }
        for (int n : new int[] {LEAST, -1, 0, 61, GREATEST}) {
            due("night(" + n + "), OUTSIDE first", OUTSIDE, x -> x.night(n));
            due("drift(" + n + "), OUTSIDE first", OUTSIDE, x -> x.drift(n));
        }
        due("winter(0), NOT: no VALLEY", NOT, x -> x.winter(0));
        due("winter(9999), NOT: no VALLEY", NOT, x -> x.winter(9999));
        for (int n : beyond(0, 9999)) {
            due("winter(" + n + "), OUTSIDE first", OUTSIDE, x -> x.winter(n));
        }
        due("mildDebts(41, 0)", OUTSIDE, x -> x.mildDebts(41, 0));
        due("mildDebts(0, 201)", OUTSIDE, x -> x.mildDebts(0, 201));
        due("undo, NOT: none", NOT, x -> x.undo());
        due("goBack(0), NOT: it was not kept", NOT, x -> x.goBack(0));
        due("goBack(1), NOT: it was not kept", NOT, x -> x.goBack(1));
        due("goBack(2)", UNKNOWN, x -> x.goBack(2));
        due("keep(2)", UNKNOWN, x -> x.keep(2));
        due("told(11)", OUTSIDE, x -> x.told(11));
        due("seed(-1)", OUTSIDE, x -> x.seed(-1));
        due("tear()", 0, x -> x.tear());
        due("judge()", Check.NONE, x -> x.judge());
        due("ask()", Check.NONE, x -> x.ask());
        due("sawn(-1)", 0, x -> x.sawn(-1));
        due("sawn(0)", Check.NONE, x -> x.sawn(0));
        due("poles()", 0, x -> x.poles());
        due("mildDebts(40, 200)", 0, x -> x.mildDebts(40, 200));
    }

    private static void full() {
        due("feed, FULL (240)", FULL, x -> x.feed('n'));
        due("feed(0), FULL (240)", FULL, x -> x.feed(0));
        due("feed(255), FULL (240)", FULL, x -> x.feed(255));
        due("feed(-1), OUTSIDE first", OUTSIDE, x -> x.feed(-1));
        due("feed(256), OUTSIDE first", OUTSIDE, x -> x.feed(256));
        due("say, FULL (6)", FULL, x -> x.say(0, 0));
        due("say(1, 9999), FULL (6)", FULL, x -> x.say(1, 9999));
        due("say(0, -1), OUTSIDE first", OUTSIDE, x -> x.say(0, -1));
        due("say(0, 10000), OUTSIDE first", OUTSIDE, x -> x.say(0, 10000));
        due("say(4, 0), UNKNOWN first", UNKNOWN, x -> x.say(4, 0));
        due("say(4, -1), UNKNOWN first", UNKNOWN, x -> x.say(4, -1));
        due("write, FULL (15)", FULL, x -> x.write(0, 0));
        due("write(2, 9999), FULL (15)", FULL, x -> x.write(2, 9999));
        due("write(0, -1), OUTSIDE first", OUTSIDE, x -> x.write(0, -1));
        due("write(0, 10000), OUTSIDE first", OUTSIDE, x -> x.write(0, 10000));
        due("write(3, 0), UNKNOWN first", UNKNOWN, x -> x.write(3, 0));
        due("write(3, -1), UNKNOWN first", UNKNOWN, x -> x.write(3, -1));
    }

    private static void fullNights() {
        for (int n : new int[] {1, 2, 60}) {
            due("night(" + n + "), FULL: NIGHTS are above 9000", FULL, x -> x.night(n));
            due("drift(" + n + "), FULL: NIGHTS are above 9000", FULL, x -> x.drift(n));
        }
        for (int n : new int[] {LEAST, 0, 61, GREATEST}) {
            due("night(" + n + "), OUTSIDE first", OUTSIDE, x -> x.night(n));
            due("drift(" + n + "), OUTSIDE first", OUTSIDE, x -> x.drift(n));
        }
    }

    /** Calls in which the document names no refusal, whatever is so. */
    private static void noOtherRefusals() {
        due("fault()", Check.NONE, x -> x.fault());
        due("judge()", 1, x -> x.judge());
        due("poles()", 2, x -> x.poles());
        due("sawn below NONE", Check.NONE, x -> x.sawn(-2));
        due("sawn far below", Check.NONE, x -> x.sawn(LEAST));
        due("sawn far above", Check.NONE, x -> x.sawn(GREATEST));
    }

    /** "TRIED from now, by THE WINTER; nothing changes by it": the answers themselves are other tests'. */
    private static void lookedAt() {
        SnowDays asked = lived();
        tried("told", asked, x -> x.told(6));
        tried("told", asked, x -> x.told(7));
        tried("winter", asked, x -> x.winter(9999));
        tried("village", asked, x -> x.village(2, 6));
        tried("person", asked, x -> x.person(3, 2));
        tried("debt", asked, x -> x.debt(4, 2));
        tried("due", asked, x -> x.due(4));
        tried("old", asked, x -> x.old(0, 200));
        tried("feast", asked, x -> x.feast(0, 1));
        tried("mild", asked, x -> x.mild(3, 40, 200));
        tried("mildDebts", asked, x -> x.mildDebts(40, 200));
        tried("older", asked, x -> x.older(0, 2));
        tried("chance", asked, x -> x.chance(4, 30));
        tried("longest", asked, x -> x.longest(2));
        tried("sawn", asked, x -> x.sawn(-1));
        tried("sawn", asked, x -> x.sawn(3));
        tried("ask", asked, x -> x.ask());
    }

    private static void tried(String name, SnowDays asked, ToIntFunction<SnowDays> ask) {
        int answer = ask.applyAsInt(asked);
        Check.holds(name + " is not refused", answer > UNKNOWN);
        due(name + " asked twice", answer, ask);
    }

    // ---- objects that lived alike

    /** All that there can be is there: a debt paid, one due, one not; an image, a past, ages, a book, letters of a next text. */
    private static SnowDays live() {
        SnowDays x = Check.of("n0,5,12,2,20;v0 1 4 9 4;v3 2 2 6 3;v10 5 5 5 2;p0 20;p1 20;p2 7;p0 3;d0 30;d1 400;d2 40;d0 39;d1 70;");
        x.seed(5);
        x.night(5);
        x.move(0, 1);
        x.keep(1);
        x.drift(2);
        x.move(2, 0);
        x.saw(1, 3);
        x.pay(0);
        return x;
    }

    private static SnowDays lived() {
        SnowDays x = live();
        x.say(1, 6);
        x.say(3, 2);
        x.write(1, x.village(1, 3));
        x.write(0, 777);
        Check.feed(x, "n7");
        return x;
    }

    private static SnowDays fullOfAll() {
        SnowDays x = live();
        for (int k = 0; k < 6; k++) {
            x.say(1, 6);
        }
        int pole = x.village(1, 3);
        for (int k = 0; k < 15; k++) {
            x.write(1, pole + k / 14);
        }
        Check.feed(x, "n7;" + " ".repeat(237));
        return x;
    }

    private static SnowDays pastAllNights() {
        SnowDays x = Check.of("n0,5;v0 1 4 9 4;v3 2 2 6 3;p0 20;d0 30;");
        x.seed(9);
        Check.nights(x, 8999);
        x.keep(0);
        x.night(1);
        x.night(1);
        return x;
    }

    // ---- two that are compared

    private static void changeNothing(String when, Supplier<SnowDays> life) {
        List<Integer> seenDue = seen(life.get());
        List<Integer> tailDue = tail(life.get());
        for (Call call : calls) {
            SnowDays x = life.get();
            Check.same(when + ": " + call.name, call.ask.applyAsInt(x), call.due);
            Check.same(when + ": " + call.name + ", fault", x.fault(), Check.NONE);
            Check.holds(when + ": " + call.name + " changes nothing that is seen", seen(x).equals(seenDue));
            SnowDays y = life.get();
            call.ask.applyAsInt(y);
            Check.holds(when + ": " + call.name + " changes nothing that is kept", tail(y).equals(tailDue));
        }
        Check.holds("there were calls " + when, !calls.isEmpty());
        calls.clear();
    }

    /** All that can be looked at now, but for the fault: a text with one changes that alone. */
    private static List<Integer> seen(SnowDays x) {
        List<Integer> answers = new ArrayList<>();
        for (int what = 0; what <= 10; what++) {
            answers.add(x.told(what));
        }
        for (int k = 0; k < 6; k++) {
            answers.add(x.winter(k));
        }
        for (int v = 0; v < 3; v++) {
            for (int what = 0; what <= 6; what++) {
                answers.add(x.village(v, what));
            }
        }
        seenOfPersonsAndDebts(x, answers);
        answers.add(x.ask());
        answers.add(x.judge());
        int seed = x.seed(0);
        answers.add(seed);
        x.seed(seed);
        return answers;
    }

    private static void seenOfPersonsAndDebts(SnowDays x, List<Integer> answers) {
        for (int p = 0; p < 4; p++) {
            for (int what = 0; what <= 2; what++) {
                answers.add(x.person(p, what));
            }
        }
        for (int d = 0; d < 5; d++) {
            for (int what = 0; what <= 3; what++) {
                answers.add(x.debt(d, what));
            }
        }
        int fitting = x.sawn(-1);
        answers.add(fitting);
        for (int i = 0; i < fitting; i++) {
            answers.add(x.sawn(i));
        }
    }

    /** What is kept: the text that was fed, what can be undone, the images. */
    private static List<Integer> tail(SnowDays x) {
        List<Integer> answers = new ArrayList<>();
        for (int k = x.told(10); k >= 0; k--) {
            answers.add(x.undo());
            shortLook(x, answers);
        }
        for (int i = 0; i < 2; i++) {
            answers.add(x.goBack(i));
            shortLook(x, answers);
        }
        x.feed(';');
        answers.add(x.valley());
        answers.add(x.fault());
        shortLook(x, answers);
        return answers;
    }

    private static void shortLook(SnowDays x, List<Integer> answers) {
        answers.add(x.told(5));
        answers.add(x.told(6));
        answers.add(x.winter(0));
        answers.add(x.judge());
        for (int k = 0; k < 3; k++) {
            answers.add(x.village(k, 3));
            answers.add(x.person(k, 0) + x.person(k, 1));
        }
        answers.add(x.debt(0, 1));
    }

    // ---- a text with a fault

    private static void faults() {
        String[] texts = {"x", "n", "n3;v9 9 9 9 9;p0 9;d0 9;q", "n41;", "n3;v9 9 9 9 9;p0 9;d0 9;d7", "n3;n", "n3;" + "v9 9 9 9 9;".repeat(5)};
        int[] due = {-11, -11, -11, -12, -12, -13, -13};
        List<Integer> seenDue = seen(live());
        List<Integer> tailDue = tail(live());
        for (int k = 0; k < texts.length; k++) {
            String label = "\"all else is as it was\": '" + texts[k] + "'";
            SnowDays x = live();
            Check.same(label, Check.valley(x, texts[k]), due[k]);
            Check.holds(label + ", what is seen", seen(x).equals(seenDue));
            SnowDays y = live();
            Check.valley(y, texts[k]);
            Check.holds(label + ", what is kept", tail(y).equals(tailDue));
        }
    }
}
