/** Promises 10 to 16: what is done and undone. */
public final class DoneTest {
    public static void main(String[] args) {
        night();
        fullNights();
        move();
        saw();
        pay();
        lend();
        drift();
        drawsOfInches();
        manyAtOnce();
        undo();
        undoEachAlone();
        lostPast();
        refusedIsNotUndone();
        Check.finish("DoneTest");
    }

    private static void night() {
        SnowDays x = new SnowDays();
        Check.same("10: OUTSIDE ahead of NOT", x.night(0), Check.OUTSIDE);
        Check.same("10: OUTSIDE ahead of NOT", x.night(61), Check.OUTSIDE);
        Check.same("10: no valley", x.night(1), Check.NOT);
        Check.valley(x, "n5,1,0;v1 2 3 9 2;p0 0;d0 9;");
        Check.same("10: night(0)", x.night(0), Check.OUTSIDE);
        Check.same("10: night(-1)", x.night(-1), Check.OUTSIDE);
        Check.same("10: night(61)", x.night(61), Check.OUTSIDE);
        Check.same("10: night(1)", x.night(1), 1);
        Check.same("10: a fall", x.village(0, 2), 1);
        Check.same("10: night(3), the winter again", x.night(3), 4);
        Check.same("10: falls", x.village(0, 2), 2);
        Check.same("10: inches", x.village(0, 4), 8);
        Check.same("10: night(60)", x.night(60), 64);
        Check.same("10: falls of 64 nights", x.village(0, 2), 22);
        Check.same("10: his age", x.person(0, 2), 11);
        Check.same("10: a valley without villages has nights", Check.of("n1;").night(7), 7);
    }

    private static void fullNights() {
        SnowDays x = Check.of("n40;v0 0 0 0 1;");
        for (int k = 1; k <= 150; k++) {
            Check.same("10: night(60)", x.night(60), 60 * k);
        }
        Check.same("10: at 9000 it may", x.night(1), 9001);
        Check.same("10: full", x.night(1), Check.FULL);
        Check.same("10: full, outside", x.night(61), Check.OUTSIDE);
        x.seed(9);
        Check.same("15: full", x.drift(1), Check.FULL);
        Check.same("15: full, outside", x.drift(0), Check.OUTSIDE);
        Check.same("15: a refused one draws nothing", x.seed(9), 9);
        Check.same("7: inches", x.village(0, 4), 40 * 9001);
        x.undo();
        Check.same("15: at 9000 it may", x.drift(60), 9060);
    }

    private static void move() {
        SnowDays x = Check.of(Check.SLOPE);
        Check.same("11: no person", x.move(3, 0), Check.UNKNOWN);
        Check.same("11: no person", x.move(-1, 0), Check.UNKNOWN);
        Check.same("11: no village", x.move(0, 3), Check.UNKNOWN);
        Check.same("11: no village", x.move(0, -1), Check.UNKNOWN);
        Check.same("11: to falls of 2", x.move(0, 2), 10);
        Check.same("11: he is there", x.person(0, 0), 2);
        x.night(2);
        Check.same("11: no fall there", x.person(0, 1), 20);
        Check.same("11: where he is", x.move(0, 2), 10);
        Check.same("11: back", x.move(0, 0), 5);
        x.night(1);
        Check.same("11: falls from then on", x.person(0, 1), 21);
        Check.same("11: three can be undone, and the nights", x.told(10), 5);
    }

    private static void saw() {
        SnowDays x = Check.of("n9;v0 1 1 1 4;v9 1 1 1 4;");
        Check.same("12: no village", x.saw(2, 0), Check.UNKNOWN);
        Check.same("12: no village", x.saw(-1, 1), Check.UNKNOWN);
        Check.same("12: saw(0, 0)", x.saw(0, 0), Check.OUTSIDE);
        Check.same("12: saw(0, 100)", x.saw(0, 100), Check.OUTSIDE);
        x.night(5);
        Check.same("12: saw(0, 1)", x.saw(0, 1), 4);
        Check.same("12: saw(0, 99)", x.saw(0, 99), 0);
        Check.same("12: all that was sawed", x.village(0, 5), 100);
        Check.same("12: the other", x.village(1, 5), 0);
        x.night(60);
        Check.same("12: falls stay", x.village(0, 2), 65);
        Check.same("12: still nothing", x.village(0, 3), 0);
        x.night(36);
        Check.same("12: what is above", x.village(0, 3), 1);
    }

    private static void pay() {
        SnowDays x = Check.of("n9,2;v0 1 1 1 4;d0 9;d0 12;");
        Check.same("13: no debt", x.pay(2), Check.UNKNOWN);
        Check.same("13: no debt", x.pay(-1), Check.UNKNOWN);
        Check.same("13: not due", x.pay(0), Check.NOT);
        x.night(1);
        Check.same("13: not due", x.pay(1), Check.NOT);
        Check.same("13: due at just so many", x.pay(0), 9);
        Check.same("13: paid", x.pay(0), Check.NOT);
        Check.same("13: it is no more", x.debt(0, 1), 0);
        x.night(1);
        Check.same("13: eleven of twelve", x.pay(1), Check.NOT);
        x.night(1);
        Check.same("13: all that fell", x.pay(1), 20);
    }

    private static void lend() {
        SnowDays x = Check.of("n9;v0 1 1 1 4;d0 9;d0 18;d0 99;");
        Check.same("14: no debt", x.lend(3, 0), Check.UNKNOWN);
        Check.same("14: no debt", x.lend(-1, 1), Check.UNKNOWN);
        Check.same("14: lend(0, 0)", x.lend(0, 0), Check.OUTSIDE);
        Check.same("14: lend(0, 1000)", x.lend(0, 1000), Check.OUTSIDE);
        Check.same("14: not paid", x.lend(0, 1), Check.NOT);
        x.night(2);
        Check.same("14: due, not paid", x.lend(0, 1), Check.NOT);
        x.pay(0);
        x.pay(1);
        x.night(3);
        Check.same("14: lend(1, 999)", x.lend(1, 999), 6);
        Check.same("14: lend(0, 1)", x.lend(0, 1), 7);
        Check.same("14: from now on", x.debt(1, 2), 0);
        Check.same("14: of told inches", x.debt(1, 1), 999);
        x.night(1);
        Check.same("14: since then", x.debt(1, 2), 9);
        Check.same("14: due", x.told(6), 1);
    }

    private static int next(int seed) {
        return (int) ((seed * 1103515245L + 12345L) % 2147483648L);
    }

    private static void drift() {
        SnowDays x = new SnowDays();
        Check.same("15: OUTSIDE ahead of NOT", x.drift(0), Check.OUTSIDE);
        Check.same("15: OUTSIDE ahead of NOT", x.drift(61), Check.OUTSIDE);
        Check.same("15: no valley", x.drift(1), Check.NOT);
        Check.valley(x, "n0;");
        Check.same("15: without villages", x.drift(2), 2);
        Check.same("15: one draw a night", x.seed(0), next(next(0)));
        Check.valley(x, "n0;v0 1 1 1 1;");
        x.seed(0);
        x.drift(30);
        int ofOne = x.village(0, 5);
        Check.holds("15: a single village's pole is sawed, too", ofOne > 0 && ofOne < 30);
        Check.valley(x, "n0;v7 9 2 5 3;v0 1 1 1 1;v20 1 1 1 1;p0 4;d0 500;");
        int seed = 2147483647;
        x.seed(seed);
        int falls = 0;
        int fell = 0;
        int[] sawed = new int[3];
        for (int k = 1; k <= 40; k++) {
            Check.same("15: drift(1)", x.drift(1), k);
            seed = next(seed);
            int inches = seed / 65536 % 41;
            falls += inches >= 12 ? 1 : 0;
            fell += Math.max(0, inches - 7);
            seed = next(seed);
            if (seed / 65536 % 4 == 0) {
                seed = next(seed);
                sawed[seed / 65536 % 3]++;
            }
        }
        Check.same("15: falls", x.village(0, 2), falls);
        Check.same("15: inches", x.village(0, 4), fell);
        Check.same("15: his falls", x.person(0, 1), 4 + falls);
        Check.same("15: the debt's inches", x.debt(0, 2), fell);
        Check.holds("15: some was sawed", sawed[0] > 0 && sawed[1] > 0 && sawed[2] > 0);
        for (int v = 0; v < 3; v++) {
            Check.same("15: sawed", x.village(v, 5), sawed[v]);
        }
        Check.same("15: the seed", x.seed(0), seed);
    }

    /** "in each a DRAW of 41 INCHES": from 0 to 40, both come. */
    private static void drawsOfInches() {
        SnowDays x = Check.of("n0;v0 0 0 0 1;");
        int seed = 0;
        int least = 40;
        int most = 0;
        int fell = 0;
        for (int k = 0; k < 300; k++) {
            x.drift(1);
            seed = next(seed);
            int inches = seed / 65536 % 41;
            fell += inches;
            least = Math.min(least, inches);
            most = Math.max(most, inches);
            seed = next(seed);
            seed = seed / 65536 % 4 == 0 ? next(seed) : seed;
        }
        Check.same("15: the least that was drawn", least, 0);
        Check.same("15: the most that was drawn", most, 40);
        Check.same("15: all that fell", x.village(0, 4), fell);
    }

    private static void manyAtOnce() {
        SnowDays x = Check.of(Check.SLOPE);
        SnowDays y = Check.of(Check.SLOPE);
        x.night(60);
        x.drift(60);
        for (int k = 0; k < 60; k++) {
            y.night(1);
        }
        for (int k = 0; k < 60; k++) {
            y.drift(1);
        }
        for (int v = 0; v < 3; v++) {
            for (int what = 2; what <= 5; what++) {
                Check.same("10, 15: sixty at once as one by one", x.village(v, what), y.village(v, what));
            }
            Check.same("10, 15: FALLS since birth", x.person(v, 1), y.person(v, 1));
        }
        Check.same("15: the seed", x.seed(0), y.seed(0));
        Check.same("16: sixty at once are one", x.told(10), 2);
        Check.same("16: one by one, 20 at most", y.told(10), 20);
        x.undo();
        Check.same("16: sixty are undone at once", x.told(5), 60);
    }

    /** Each of the six alone, undone at once, and a last one that could not be: nothing is left of it. */
    private static void undoEachAlone() {
        SnowDays x = Check.of("n9;v0 1 1 1 4;v0 1 1 1 2;p0 4;d0 9;");
        x.move(0, 1);
        Check.same("16: move", x.undo(), 0);
        Check.same("16: where he was", x.person(0, 0), 0);
        x.saw(0, 99);
        Check.same("16: saw", x.undo(), 0);
        Check.same("16: what was sawed", x.village(0, 5), 0);
        x.night(60);
        Check.same("16: night", x.undo(), 0);
        Check.same("16: nights", x.told(5), 0);
        x.drift(60);
        int seed = x.seed(0);
        x.seed(seed);
        Check.same("16: drift", x.undo(), 0);
        Check.same("16: nights", x.told(5), 0);
        Check.same("16: inches", x.village(0, 4), 0);
        Check.same("16: sawed", x.village(0, 5) + x.village(1, 5), 0);
        Check.same("16: \"THE SEED stays\"", x.seed(seed), seed);
        x.night(1);
        x.pay(0);
        Check.same("16: pay", x.undo(), 1);
        Check.same("16: it is due", x.debt(0, 3), 1);
        x.pay(0);
        x.lend(0, 5);
        Check.same("16: lend", x.undo(), 2);
        Check.same("16: it is paid", x.debt(0, 1), 0);
        Check.same("16: lent anew", x.lend(0, 6), 1);
    }

    private static void undo() {
        SnowDays x = new SnowDays();
        Check.same("16: none", x.undo(), Check.NOT);
        Check.valley(x, Check.SLOPE);
        Check.same("16: none", x.undo(), Check.NOT);
        x.night(5);
        x.move(2, 0);
        x.saw(1, 3);
        x.pay(0);
        x.lend(0, 100);
        x.drift(9);
        int seed = x.seed(3);
        x.say(0, 1);
        x.write(0, 1);
        Check.same("16: drift", x.undo(), 5);
        Check.same("16: nights", x.told(5), 5);
        Check.same("16: falls", x.village(0, 2), 3);
        Check.same("16: inches", x.village(0, 4), 39);
        Check.same("16: the seed stays", x.seed(3), 3);
        Check.holds("16: it had moved", seed != 0);
        Check.same("16: ages stay", x.told(8), 1);
        Check.same("16: the book stays", x.told(9), 1);
        Check.same("16: still lent", x.debt(0, 1), 100);
        Check.same("16: lend", x.undo(), 4);
        Check.same("16: paid", x.debt(0, 1), 0);
        Check.same("16: pay", x.undo(), 3);
        Check.same("16: owed", x.debt(0, 1), 30);
        Check.same("16: since it was made", x.debt(0, 2), 39);
        Check.same("16: still sawed", x.village(1, 3), 0);
        Check.same("16: saw", x.undo(), 2);
        Check.same("16: the pole", x.village(1, 3), 3);
        Check.same("16: still there", x.person(2, 0), 0);
        Check.same("16: move", x.undo(), 1);
        Check.same("16: at home", x.person(2, 0), 2);
        Check.same("16: night", x.undo(), 0);
        Check.same("16: as told", x.told(5) + x.village(0, 2) + x.village(0, 4) + x.debt(0, 2), 0);
        Check.same("16: his falls", x.person(0, 1), 20);
        Check.same("16: none", x.undo(), Check.NOT);
    }

    private static void lostPast() {
        SnowDays x = Check.of("n9;v0 1 1 1 4;");
        for (int k = 1; k <= 33; k++) {
            x.night(k);
            Check.same("16: can be undone", x.told(10), Math.min(k, 20));
        }
        int nights = 33 * 34 / 2;
        for (int k = 33; k > 13; k--) {
            nights -= k;
            Check.same("16: undo", x.undo(), k - 14);
            Check.same("16: nights", x.told(5), nights);
            Check.same("16: falls", x.village(0, 2), nights);
        }
        Check.same("16: the oldest are lost", x.undo(), Check.NOT);
        x.saw(0, 1);
        Check.same("16: anew", x.undo(), 0);
        Check.same("16: the pole", x.village(0, 3), nights);
    }

    private static void refusedIsNotUndone() {
        SnowDays x = Check.of(Check.SLOPE);
        x.night(0);
        x.night(61);
        x.move(9, 0);
        x.move(0, 9);
        x.saw(9, 1);
        x.saw(0, 0);
        x.pay(9);
        x.pay(0);
        x.lend(9, 1);
        x.lend(0, 0);
        x.lend(0, 1);
        x.drift(0);
        Check.same("16: refused calls are none", x.told(10), 0);
        Check.same("16: refused calls are none", x.undo(), Check.NOT);
    }
}
