/** Promises 26 to 34: ages that were told, the book, the seed, the images. */
public final class ToldTest {
    public static void main(String[] args) {
        say();
        sawn();
        sawnWhereHeIs();
        sawnOfAll();
        sawnOfOthers();
        everyAgeCounts();
        ask();
        write();
        tear();
        judge();
        fullBook();
        seed();
        images();
        imagesWithoutValley();
        Check.finish("ToldTest");
    }

    private static void say() {
        SnowDays x = Check.of("n9;v0 1 1 1 4;p0 3;");
        Check.same("26: no person", x.say(1, -1), Check.UNKNOWN);
        Check.same("26: no person", x.say(-1, 0), Check.UNKNOWN);
        Check.same("26: age -1", x.say(0, -1), Check.OUTSIDE);
        Check.same("26: age 10000", x.say(0, 10000), Check.OUTSIDE);
        Check.same("26: age 9999", x.say(0, 9999), 1);
        for (int k = 2; k <= 6; k++) {
            Check.same("26: age 0", x.say(0, 0), k);
        }
        Check.same("26: full", x.say(0, 0), Check.FULL);
        Check.same("26: full, outside", x.say(0, -1), Check.OUTSIDE);
        Check.same("26: full, unknown", x.say(1, 0), Check.UNKNOWN);
        Check.same("26: six", x.told(8), 6);
        Check.same("26: none of them is undone", x.told(10), 0);
    }

    private static void all(SnowDays x, String when, int... due) {
        Check.same("27: how many, " + when, x.sawn(Check.NONE), due.length);
        for (int i = 0; i < due.length; i++) {
            Check.same("27: sawn(" + i + "), " + when, x.sawn(i), due[i]);
        }
        Check.same("27: no more, " + when, x.sawn(due.length), Check.NONE);
        Check.same("27: no more, " + when, x.sawn(Integer.MAX_VALUE), Check.NONE);
        Check.same("27: below, " + when, x.sawn(-2), Check.NONE);
        Check.same("27: below, " + when, x.sawn(Integer.MIN_VALUE), Check.NONE);
    }

    private static void sawn() {
        SnowDays x = Check.of("n9;v0 1 1 1 4;v0 1 1 1 2;p0 3;p1 1;p0 4;");
        all(x, "nothing told", 0, 1, 2, 3, 4, 5, 6, 7, 8, 9, 10, 11, 12, 13, 14, 15, 16, 17, 18, 19);
        x.night(6);
        x.saw(0, 2);
        x.saw(1, 1);
        // p0 tells (3 + 4) / 4 = 1 by what is; by k: 9/4=2 8/4=2 7/4 6/4 5/4 4/4 = 1, 3/4 = 0 from 6 on
        x.say(0, 2);
        all(x, "p0 is 2", 0, 1);
        x.tear();
        x.say(0, 1);
        all(x, "p0 is 1", 2, 3, 4, 5, 10, 11, 12, 13, 14, 15, 16, 17, 18, 19);
        // p1 tells (1 + 5) / 2 = 3 by what is; by k: 3 3 2 2 1 1 0 0 0 0
        x.say(1, 3);
        all(x, "and p1 3", 2, 3, 4, 5, 10, 11);
        x.say(2, 2);
        all(x, "and p2 2, by 8 of 4", 2, 10, 11);
        x.say(2, 1);
        all(x, "and p2 1");
        x.tear();
        x.say(1, 0);
        all(x, "p1 is 0", 16, 17, 18, 19);
        x.tear();
        x.say(1, 9999);
        all(x, "p1 is 9999");
        SnowDays least = Check.of("n9;v0 1 1 1 1;p0 0;");
        least.night(7);
        least.say(0, 0);
        all(least, "a pole tells 0 at least", 7, 8, 9);
    }

    private static void sawnWhereHeIs() {
        SnowDays x = Check.of("n9;v0 1 1 1 4;v0 1 1 1 1;p0 3;");
        x.night(3);
        x.say(0, 4);
        all(x, "at home he is 1");
        x.move(0, 1);
        // by F and the pole of where he is now, not by falls since birth
        x.night(1);
        all(x, "he went: 3 and 4 less k", 13);
    }

    private static void sawnOfAll() {
        SnowDays four = Check.of("n9;" + "v0 1 1 1 1;".repeat(4));
        Check.same("27: four VILLAGES, k 0 .. 9", four.sawn(-1), 40);
        for (int i = 0; i < 40; i++) {
            Check.same("27: sawn(" + i + ") of all", four.sawn(i), i);
        }
        Check.same("27: behind the last", four.sawn(40), Check.NONE);
        SnowDays none = Check.of("n9;");
        Check.same("27: no VILLAGES", none.sawn(-1), 0);
        Check.same("27: no VILLAGES", none.sawn(0), Check.NONE);
        Check.same("28: no VILLAGES", none.ask(), Check.NONE);
    }

    /** "of that one VILLAGE k sawed off, of the others what is" */
    private static void sawnOfOthers() {
        SnowDays x = Check.of("n9;v0 1 1 1 1;v0 1 1 1 1;p0 0;p1 0;");
        x.night(30);
        x.saw(0, 25);
        x.say(0, 5);
        all(x, "25 sawed, 5 told: it is the other", 10, 11, 12, 13, 14, 15, 16, 17, 18, 19);
        x.say(1, 21);
        all(x, "nine of the other", 19);
        x.tear();
        x.say(1, 20);
        all(x, "ten is more than nine");
        x.tear();
        x.say(0, 30);
        all(x, "k 0: none was sawed", 0);
        x.say(1, 30);
        all(x, "k 0, and of the other what is", 0);
        x.saw(1, 1);
        all(x, "the other is sawed, too");
    }

    private static void everyAgeCounts() {
        SnowDays x = Check.of("n9;v0 1 1 1 1;p0 0;");
        x.night(20);
        for (int k = 1; k <= 6; k++) {
            Check.same("26: how many", x.say(0, 17), k);
            Check.same("27: alike told again", x.sawn(-1), 1);
        }
        Check.same("26: a seventh", x.say(0, 16), Check.FULL);
        Check.same("27: it is not told", x.sawn(0), 3);
        Check.same("30: six", x.tear(), 6);
        for (int k = 0; k < 5; k++) {
            x.say(0, 17);
        }
        x.say(0, 16);
        Check.same("27: the sixth counts", x.sawn(-1), 0);
    }

    private static void ask() {
        Check.same("28: nobody", Check.of("n9;v0 1 1 1 4;").ask(), Check.NONE);
        SnowDays x = Check.of("n9;v0 1 1 1 40;v0 1 1 1 3;v0 1 1 1 2;p0 0;p1 0;p2 0;p2 1;");
        Check.same("28: poles of 0 part nobody", x.ask(), Check.NONE);
        x.night(3);
        // p1: 3 or 2 (20, and k 0) 1 by k 0: 1 alike: 21; others 0 by k from 1 on: 9. p2: 3 2 1 0: 1 1 0 0..: 22, 8. p3: 4 3 2 1: 2 1 1 0..: 21, 2, 7
        Check.same("28: of like ones the least", x.ask(), 1);
        x.say(1, 1);
        // left: 0..9, 10, 20..29: p2 parts 13, 8; p3 12, 2, 7
        Check.same("28: the greatest part is least", x.ask(), 3);
        x.say(3, 0);
        Check.same("28: what is left", x.sawn(-1), 7);
        Check.same("28: none parts them", x.ask(), Check.NONE);
        x.say(3, 9);
        Check.same("28: nothing fits", x.sawn(-1), 0);
        Check.same("28: nothing fits", x.ask(), Check.NONE);
        SnowDays first = Check.of("n9;v0 1 1 1 1;p0 0;p0 0;");
        first.night(20);
        Check.same("28: the first of two alike", first.ask(), 0);
        first.say(1, 11);
        Check.same("28: a single one is left", first.sawn(-1), 1);
        Check.same("28: a single one is left", first.ask(), Check.NONE);
        SnowDays two = Check.of("n9;v0 1 1 1 2;p0 0;p0 1;");
        two.night(3);
        two.say(0, 1);
        Check.same("28: two are left", two.sawn(-1), 2);
        Check.same("28: the other parts them", two.ask(), 1);
        two.say(1, 2);
        Check.same("28: one is left", two.sawn(-1), 1);
        Check.same("28: one is left", two.ask(), Check.NONE);
    }

    private static void write() {
        SnowDays x = Check.of("n9;v0 1 1 1 4;");
        Check.same("29: no village", x.write(1, -1), Check.UNKNOWN);
        Check.same("29: no village", x.write(-1, 0), Check.UNKNOWN);
        Check.same("29: pole -1", x.write(0, -1), Check.OUTSIDE);
        Check.same("29: pole 10000", x.write(0, 10000), Check.OUTSIDE);
        Check.same("29: pole 9999", x.write(0, 9999), 1);
        for (int k = 2; k <= 15; k++) {
            Check.same("29: pole 0", x.write(0, 0), k);
        }
        Check.same("29: full", x.write(0, 0), Check.FULL);
        Check.same("29: full, outside", x.write(0, 10000), Check.OUTSIDE);
        Check.same("29: full, unknown", x.write(1, 0), Check.UNKNOWN);
        Check.same("29: fifteen", x.told(9), 15);
    }

    private static void tear() {
        SnowDays x = Check.of("n9;v0 1 1 1 4;p0 0;");
        Check.same("30: nothing", x.tear(), 0);
        x.say(0, 1);
        x.write(0, 1);
        x.write(0, 1);
        Check.same("30: one and two", x.tear(), 3);
        Check.same("30: no ages", x.told(8), 0);
        Check.same("30: no book", x.told(9), 0);
        Check.same("30: nothing is wrong", x.judge(), Check.NONE);
        Check.same("30: all fits", x.sawn(-1), 10);
        Check.same("30: anew", x.write(0, 0), 1);
    }

    private static void judge() {
        SnowDays x = Check.of("n9;v0 1 1 1 4;v0 1 1 1 4;");
        Check.same("31: an empty book", x.judge(), Check.NONE);
        x.write(0, 0);
        x.write(1, 0);
        Check.same("31: right", x.judge(), Check.NONE);
        x.write(1, 2);
        Check.same("31: the third", x.judge(), 2);
        x.night(2);
        Check.same("31: the first", x.judge(), 0);
        x.saw(0, 9);
        Check.same("31: by what the pole tells", x.judge(), 1);
        x.undo();
        Check.same("31: undone", x.judge(), 0);
    }

    private static void fullBook() {
        SnowDays x = Check.of("n9;v0 1 1 1 4;p0 0;");
        for (int k = 1; k <= 14; k++) {
            x.write(0, 0);
        }
        Check.same("31: fourteen are right", x.judge(), Check.NONE);
        Check.same("29: the fifteenth", x.write(0, 1), 15);
        Check.same("31: the fifteenth is wrong", x.judge(), 14);
        Check.same("29: a sixteenth", x.write(0, 0), Check.FULL);
        x.night(1);
        Check.same("31: now all but the fifteenth", x.judge(), 0);
        for (int k = 0; k < 6; k++) {
            x.say(0, 0);
        }
        Check.same("30: six and fifteen", x.tear(), 21);
        Check.same("30: twice", x.tear(), 0);
        Check.same("29: it is empty", x.write(0, 1), 1);
        Check.same("26: none were told", x.say(0, 0), 1);
        Check.same("31: right", x.judge(), Check.NONE);
    }

    private static void seed() {
        SnowDays x = new SnowDays();
        Check.same("32: 0 at first", x.seed(2147483647), 0);
        Check.same("32: seed(-1)", x.seed(-1), Check.OUTSIDE);
        Check.same("32: seed(least)", x.seed(Integer.MIN_VALUE), Check.OUTSIDE);
        Check.same("32: what it was", x.seed(0), 2147483647);
        Check.same("32: what it was", x.seed(1), 0);
        Check.valley(x, "n1;");
        x.drift(1);
        Check.same("32: by a draw", x.seed(0), 1103527590);
        x.seed(2147483647);
        x.drift(1);
        // less 1103515245, and 12345, left over by 2 to the 31
        Check.same("32: by a draw of the greatest", x.seed(0), (int) (2147483648L - 1103515245 + 12345));
    }

    private static void images() {
        SnowDays x = Check.of(Check.SLOPE);
        Check.same("33: no image", x.keep(2), Check.UNKNOWN);
        Check.same("33: no image", x.keep(-1), Check.UNKNOWN);
        Check.same("34: no image", x.goBack(2), Check.UNKNOWN);
        Check.same("34: no image", x.goBack(-1), Check.UNKNOWN);
        Check.same("34: not kept", x.goBack(0), Check.NOT);
        Check.same("34: not kept", x.goBack(1), Check.NOT);
        x.night(5);
        x.pay(0);
        x.move(2, 1);
        x.saw(0, 1);
        x.seed(11);
        Check.same("33: a refused one leaves the past", x.told(10), 4);
        Check.same("33: keep(1)", x.keep(1), 1);
        Check.same("33: nothing can be undone", x.undo(), Check.NOT);
        Check.same("34: the other is not kept", x.goBack(0), Check.NOT);
        x.drift(60);
        x.lend(0, 7);
        x.move(2, 0);
        x.saw(0, 50);
        x.say(0, 4);
        x.write(0, 4);
        x.feed('n');
        x.keep(0);
        x.night(3);
        Check.same("34: a refused one leaves the past", x.goBack(9), Check.UNKNOWN);
        Check.same("34: a refused one leaves the past", x.told(10), 1);
        Check.same("34: goBack(1)", x.goBack(1), 1);
        Check.same("34: nothing can be undone", x.told(10), 0);
        Check.same("34: nights", x.told(5), 5);
        Check.same("34: falls", x.village(0, 2), 3);
        Check.same("34: the pole", x.village(0, 3), 2);
        Check.same("34: inches", x.village(0, 4), 39);
        Check.same("34: where he was", x.person(2, 0), 1);
        Check.same("34: his falls", x.person(2, 1), 8);
        Check.same("34: paid", x.debt(0, 1), 0);
        Check.same("34: owed", x.debt(1, 2), 28);
        Check.same("34: ages stay", x.told(8), 1);
        Check.same("34: the book stays", x.told(9), 1);
        Check.same("34: the text stays", x.told(4), 1);
        Check.same("34: the seed", x.seed(12), 11);
        Check.same("34: goBack(0)", x.goBack(0), 1);
        Check.same("34: nights", x.told(5), 65);
        Check.same("34: lent", x.debt(0, 1), 7);
        Check.same("34: goBack(1) again", x.goBack(1), 1);
        Check.same("34: the seed again", x.seed(12), 11);
        x.night(1);
        Check.same("33: written over", x.keep(1), 1);
        x.night(1);
        x.goBack(1);
        Check.same("33: written over", x.told(5), 6);
    }

    private static void imagesWithoutValley() {
        SnowDays x = new SnowDays();
        x.seed(5);
        Check.same("33: without a valley", x.keep(0), 1);
        x.seed(6);
        Check.same("34: without a valley", x.goBack(0), 1);
        Check.same("34: the seed", x.seed(0), 5);
        x.keep(0);
        Check.valley(x, "n1");
        Check.same("3: a fault leaves images", x.goBack(0), 1);
        Check.valley(x, "n1;");
        Check.same("3: a valley takes them", x.goBack(0), Check.NOT);
    }
}
