/** A valley as full as it may be: 20 numbers, 4 villages, 6 persons, 5 debts; every call meets the last of each, and none behind it. */
public final class FullestTest {
    /** Falls from 1, 6, 11, 16 inches on: 20, 15, 10, 5 of the winter's 20 nights; 210, 120, 55, 15 inches. */
    private static final String FULLEST = "n1,2,3,4,5,6,7,8,9,10,11,12,13,14,15,16,17,18,19,20;"
            + "v0 1 1 1 1;v5 1 1 1 2;v10 1 1 1 3;v15 1 1 1 40;"
            + "p0 1;p1 2;p2 3;p3 4;p0 999;p3 999;"
            + "d0 210;d1 120;d2 56;d3 15;d3 16;";

    public static void main(String[] args) {
        told();
        aWinter();
        done();
        tried();
        asked();
        undone();
        sixWithoutSnow();
        Check.finish("FullestTest");
    }

    private static SnowDays behindAWinter() {
        SnowDays x = Check.of(FULLEST);
        x.night(20);
        return x;
    }

    private static void told() {
        SnowDays x = Check.of(FULLEST);
        int[] due = {20, 4, 6, 5, 0, 0, 0, 0, 0, 0, 0};
        for (int what = 0; what <= 10; what++) {
            Check.same("told(" + what + ")", x.told(what), due[what]);
        }
        Check.same("the last number", x.winter(19), 20);
        Check.same("the first again", x.winter(20), 1);
    }

    private static void aWinter() {
        SnowDays x = behindAWinter();
        int[] falls = {20, 15, 10, 5};
        int[] fell = {210, 120, 55, 15};
        for (int v = 0; v < 4; v++) {
            Check.same("FALLS of " + v, x.village(v, 2), falls[v]);
            Check.same("INCHES of " + v, x.village(v, 4), fell[v]);
        }
        int[] lived = {21, 17, 13, 9, 1019, 1004};
        int[] age = {21, 8, 4, 0, 1019, 25};
        for (int p = 0; p < 6; p++) {
            Check.same("FALLS since birth of " + p, x.person(p, 1), lived[p]);
            Check.same("AGE of " + p, x.person(p, 2), age[p]);
        }
        int[] owed = {210, 120, 56, 15, 16};
        int[] since = {210, 120, 55, 15, 15};
        for (int d = 0; d < 5; d++) {
            Check.same("I of " + d, x.debt(d, 1), owed[d]);
            Check.same("INCHES since " + d + " was made", x.debt(d, 2), since[d]);
        }
        Check.same("DEBTS that are due", x.told(6), 1 | 2 | 8);
    }

    private static void done() {
        SnowDays x = behindAWinter();
        Check.same("pay(0)", x.pay(0), 210);
        Check.same("lend(0, 5): all five", x.lend(0, 5), 31);
        Check.same("pay(3)", x.pay(3), 15);
        Check.same("DEBTS that are due", x.told(6), 2);
        x.night(20);
        Check.same("pay(4)", x.pay(4), 30);
        Check.same("lend(4, 999): but for the fourth", x.lend(4, 999), 1 | 2 | 4 | 16);
        Check.same("lend(3, 1): all five", x.lend(3, 1), 31);
        Check.same("DEBTS that are due", x.told(6), 1 | 2 | 4);
        x.night(20);
        Check.same("the last DEBT", x.debt(4, 2), 15);
        Check.same("DEBTS that are due", x.told(6), 1 | 2 | 4 | 8);
        Check.same("the last PERSON moves", x.move(5, 0), 1014);
        Check.same("the last POLE is sawed", x.saw(3, 1), 14);
        x.night(1);
        Check.same("the last PERSON", x.person(5, 1), 1015);
        Check.same("the one ahead of him", x.person(4, 1), 1060);
        Check.same("what DEBT 0 is of", x.debt(0, 1), 5);
    }

    private static void tried() {
        SnowDays x = behindAWinter();
        Check.same("due(2): at 11 inches", x.due(2), 11);
        Check.same("due(4): at 16 inches", x.due(4), 16);
        Check.same("old(4, 200)", x.old(4, 200), 1219);
        Check.same("old(5, 200)", x.old(5, 200), 26);
        Check.same("mild(5, 40, 200)", x.mild(5, 40, 200), 1);
        Check.same("mildDebts(40, 200)", x.mildDebts(40, 200), 4 | 16);
        Check.same("mildDebts(1, 15)", x.mildDebts(1, 15), 0);
        Check.same("mildDebts(40, 11)", x.mildDebts(40, 11), 4);
        Check.same("older(5, 0)", x.older(5, 0), 1000 + 1004 - 25);
        Check.same("older(4, 3)", x.older(4, 3), 1000 + 25 - 1019);
        Check.same("chance(2, 1): ten of twenty", x.chance(2, 1), 500000);
        Check.same("chance(4, 1): five of twenty", x.chance(4, 1), 250000);
        Check.same("poles()", x.poles(), 4);
        for (int v = 0; v < 4; v++) {
            Check.same("longest(" + v + ")", x.longest(v), 5 * v);
        }
        // the last tells 5 to 39, above all of 3, until its year is over behind 140 nights; the 81st fall of the other is behind 151
        Check.same("feast(2, 3)", x.feast(2, 3), 151);
        x.saw(3, 5);
        // 5 less 5 is 0: 10, 11, 12 of 3 is 0 behind 12 nights
        Check.same("feast(3, 2)", x.feast(3, 2), 12);
    }

    private static void asked() {
        SnowDays x = behindAWinter();
        Check.same("sawn(-1)", x.sawn(-1), 40);
        // alike by p0 31, p1 32, p2 32, p3 40, p4 31, p5 35
        Check.same("ask", x.ask(), 0);
        Check.same("say(0, 21)", x.say(0, 21), 1);
        Check.same("sawn(-1)", x.sawn(-1), 31);
        Check.same("the last of them", x.sawn(30), 39);
        // by p1 23, p2 23, p5 26
        Check.same("ask", x.ask(), 1);
        x.say(1, 8);
        Check.same("sawn(-1)", x.sawn(-1), 23);
        // by p2 15, p5 18
        Check.same("ask", x.ask(), 2);
        x.say(2, 4);
        Check.same("sawn(-1)", x.sawn(-1), 15);
        Check.same("ask the last", x.ask(), 5);
        x.say(5, 24);
        Check.same("sawn(-1)", x.sawn(-1), 5);
        Check.same("the first of them", x.sawn(0), 35);
        Check.same("nobody parts them", x.ask(), Check.NONE);
        x.write(3, 5);
        Check.same("the last POLE", x.judge(), Check.NONE);
    }

    private static void undone() {
        SnowDays x = behindAWinter();
        x.keep(1);
        x.pay(3);
        x.move(5, 1);
        x.saw(3, 99);
        x.seed(7);
        x.drift(60);
        x.keep(0);
        Check.same("goBack(1)", x.goBack(1), 1);
        Check.same("the last DEBT but one", x.debt(3, 1), 15);
        Check.same("the last PERSON", x.person(5, 0), 3);
        Check.same("the last PERSON's FALLS", x.person(5, 1), 1004);
        Check.same("the last POLE", x.village(3, 3), 5);
        x.move(5, 2);
        x.saw(3, 2);
        x.night(60);
        x.undo();
        x.undo();
        x.undo();
        Check.same("undone: the last PERSON", x.person(5, 0), 3);
        Check.same("undone: the last POLE", x.village(3, 3), 5);
        Check.same("undone: the last DEBT", x.debt(4, 2), 15);
        Check.same("goBack(0)", x.goBack(0), 1);
        Check.same("what was kept there", x.told(5), 80);
        Check.same("paid there", x.debt(3, 1), 0);
        Check.same("moved there", x.person(5, 0), 1);
    }

    /** Six who have no falls, beside a village that has: nobody ages, and no debt grows by it. */
    private static void sixWithoutSnow() {
        SnowDays x = Check.of("n9;v0 1 1 1 1;v40 0 0 0 1;" + "p1 0;".repeat(6) + "d0 5;d1 5;");
        x.night(10);
        for (int p = 0; p < 6; p++) {
            Check.same("nobody ages: " + p, x.person(p, 1), 0);
        }
        Check.same("what DEBT 0 is of", x.debt(0, 1), 5);
        Check.same("what DEBT 1 is of", x.debt(1, 1), 5);
    }
}
