/** Section 2, sentence by sentence, each at its bound. What stands in quotes is the document's. */
public final class SnowTest {
    public static void main(String[] args) {
        nightsFromNought();
        nothingBelowNought();
        aboveNought();
        twoPlanks();
        leastFall();
        addedUp();
        poleNoughtAtLeast();
        ageCuts();
        whileHeWasThere();
        dueAtJustSoMany();
        paidIsNoMore();
        madeAnew();
        movedFromNow();
        mostThatCanBe();
        Check.finish("SnowTest");
    }

    private static void nightsFromNought() {
        SnowDays x = Check.of("n1,0,0;v0 0 0 0 1;");
        Check.same("\"NIGHTS are counted from 0\"", x.told(5), 0);
        x.night(1);
        Check.same("the first NIGHT is NIGHT 0 of THE WINTER", x.village(0, 2), 1);
        x.night(2);
        Check.same("the next two are others", x.village(0, 2), 1);
        x.night(1);
        Check.same("NIGHT 3 has the one of NIGHT 0", x.village(0, 2), 2);
    }

    private static void nothingBelowNought() {
        String sentence = "\"I less D fall (0 at least)\"";
        SnowDays x = Check.of("n0,4,5,6;v5 9 9 9 1;v40 0 0 0 1;d0 9;d1 9;");
        x.night(2);
        Check.same(sentence + ": less than D", x.village(0, 4), 0);
        x.night(1);
        Check.same(sentence + ": D", x.village(0, 4), 0);
        x.night(1);
        Check.same(sentence + ": one above D", x.village(0, 4), 1);
        Check.same(sentence + ": a DEBT's", x.debt(0, 2), 1);
        Check.same(sentence + ": 40 dry", x.village(1, 4), 0);
        Check.same(sentence + ": a DEBT's, 40 dry", x.debt(1, 2), 0);
    }

    private static void aboveNought() {
        String sentence = "\"it is a FALL there, if that is above 0\"";
        SnowDays x = Check.of("n0,2,3,4;v0 0 0 0 1;v3 0 0 0 1;v4 0 0 0 1;");
        x.night(4);
        Check.same(sentence + ": 0 dry, but for 0", x.village(0, 2), 3);
        Check.same(sentence + ": 3 dry, 4 alone", x.village(1, 2), 1);
        Check.same(sentence + ": 4 dry, none", x.village(2, 2), 0);
        SnowDays most = Check.of("n40;v39 1 1 40 1;v40 0 0 0 1;");
        most.night(1);
        Check.same(sentence + ": 40 less 39", most.village(0, 2), 1);
        Check.same(sentence + ": 40 less 40", most.village(1, 2), 0);
    }

    private static void falls(String planks, int due) {
        SnowDays x = Check.of("n7;v2 " + planks + " 1;");
        x.night(1);
        Check.same("\"two of its planks or more are no more than that\": 5 inches, planks " + planks, x.village(0, 2), due);
    }

    private static void twoPlanks() {
        falls("5 5 5", 1);
        falls("5 5 6", 1);
        falls("5 6 5", 1);
        falls("6 5 5", 1);
        falls("5 6 6", 0);
        falls("6 5 6", 0);
        falls("6 6 5", 0);
        falls("6 6 6", 0);
        falls("0 0 40", 1);
        falls("0 40 5", 1);
        falls("40 0 4", 1);
        falls("0 40 6", 0);
        falls("40 40 0", 0);
    }

    /** The least inches of promise 7 are a fall, an inch less is none, for all dryness and planks on the way. */
    private static void leastFall() {
        for (int dry = 0; dry <= 40; dry += 4) {
            for (int plank = 0; plank <= 40; plank += 5) {
                int least = dry + Math.max(1, plank);
                SnowDays x = Check.of("n" + Math.min(40, least) + "," + Math.min(40, least - 1) + ";v" + dry + " 0 " + plank + " 40 1;");
                Check.same("\"the least INCHES of a NIGHT (above D) that are a FALL\", " + dry + " dry, plank " + plank, x.village(0, 6), least);
                x.night(1);
                Check.same("so many are a FALL, " + dry + " dry, plank " + plank, x.village(0, 2), least <= 40 ? 1 : 0);
                x.night(1);
                Check.same("an inch less is none, " + dry + " dry, plank " + plank, x.village(0, 2), least <= 40 ? 1 : 0);
            }
        }
    }

    private static void addedUp() {
        SnowDays x = Check.of("n3,1,2;v0 3 3 3 1;v1 1 1 1 1;");
        int[] fell = {3, 4, 6, 9};
        int[] fellThere = {2, 2, 3, 5};
        for (int k = 0; k < 4; k++) {
            x.night(1);
            Check.same("\"What fell is added up\", also what is no FALL", x.village(0, 4), fell[k]);
            Check.same("\"What fell is added up\", in each VILLAGE", x.village(1, 4), fellThere[k]);
        }
        Check.same("\"FALLS of a VILLAGE are counted\"", x.village(0, 2), 2);
        Check.same("\"FALLS of a VILLAGE are counted\"", x.village(1, 2), 3);
    }

    private static void poleNoughtAtLeast() {
        String sentence = "\"less what was SAWED off (0 at least)\"";
        SnowDays x = Check.of("n1;v0 0 0 0 1;");
        Check.same(sentence + ": of no FALLS", x.saw(0, 1), 0);
        x.night(1);
        Check.same(sentence + ": as many", x.village(0, 3), 0);
        x.night(1);
        Check.same(sentence + ": one above", x.village(0, 3), 1);
        Check.same(sentence + ": one below", x.saw(0, 2), 0);
        Check.same(sentence + ": what was sawed is more than there was", x.village(0, 5), 3);
        Check.same("FALLS are not sawed", x.village(0, 2), 2);
    }

    private static void ageCuts() {
        String sentence = "\"(FALLS since birth) / Y\", \"/ cuts towards 0\"";
        SnowDays x = Check.of("n1;v0 0 0 0 40;p0 0;p0 39;p0 40;p0 79;p0 80;p0 999;");
        int[] due = {0, 0, 1, 1, 2, 24};
        int[] behind = {0, 1, 1, 2, 2, 25};
        for (int p = 0; p < 6; p++) {
            Check.same(sentence, x.person(p, 2), due[p]);
        }
        x.night(1);
        for (int p = 0; p < 6; p++) {
            Check.same(sentence + ", a FALL later", x.person(p, 2), behind[p]);
        }
        SnowDays one = Check.of("n1;v0 0 0 0 1;p0 0;p0 999;");
        Check.same(sentence + ": by 1", one.person(0, 2), 0);
        Check.same(sentence + ": by 1", one.person(1, 2), 999);
    }

    private static void whileHeWasThere() {
        String sentence = "\"those of VILLAGES in which he was, while he was there\"";
        SnowDays x = Check.of("n1;v0 0 0 0 1;v1 0 0 0 1;v0 0 0 0 7;p0 0;p1 0;");
        x.night(3);
        x.move(0, 1);
        x.move(1, 0);
        Check.same(sentence + ": FALLS ahead of his coming are not his", x.person(1, 1), 0);
        x.night(4);
        Check.same(sentence + ": he keeps his", x.person(0, 1), 3);
        Check.same(sentence + ": from then on", x.person(1, 1), 4);
        x.move(0, 2);
        x.night(5);
        Check.same(sentence + ": of both", x.person(0, 1), 8);
        Check.same("\"Y of the VILLAGE in which he is now\"", x.person(0, 2), 1);
        Check.same("FALLS of a VILLAGE do not go with him", x.village(0, 2), 12);
    }

    private static void dueAtJustSoMany() {
        String sentence = "\"A DEBT is due, when INCHES that fell in its VILLAGE since it was made are I or more\"";
        SnowDays x = Check.of("n3;v1 0 0 0 1;v40 0 0 0 1;d0 3;d0 4;d0 5;d1 1;");
        x.night(1);
        Check.same(sentence + ": 2 inches", x.told(6), 0);
        x.night(1);
        Check.same(sentence + ": more", x.debt(0, 3), 1);
        Check.same(sentence + ": just so many", x.debt(1, 3), 1);
        Check.same(sentence + ": one less", x.debt(2, 3), 0);
        Check.same(sentence + ": in its VILLAGE", x.debt(3, 3), 0);
        Check.same(sentence + ", a SET", x.told(6), 1 | 2);
        x.night(60);
        Check.same(sentence + ", a SET", x.told(6), 1 | 2 | 4);
        SnowDays last = Check.of("n1;v0 0 0 0 1;d0 9;d0 9;d0 9;d0 9;d0 1;");
        last.night(1);
        Check.same("\"A SET is a whole number, bit k for k\": the fifth", last.told(6), 16);
    }

    private static void paidIsNoMore() {
        String sentence = "\"PAID: it is no more\"";
        SnowDays x = Check.of("n9;v0 0 0 0 1;d0 9;d0 99;");
        x.night(1);
        Check.same(sentence, x.pay(0), 9);
        x.night(1);
        int[] due = {0, 0, 0, 0};
        for (int what = 0; what <= 3; what++) {
            Check.same(sentence + ": debt(0, " + what + ")", x.debt(0, what), due[what]);
        }
        Check.same(sentence + ": not due", x.told(6), 0);
        Check.same(sentence + ": not paid twice", x.pay(0), Check.NOT);
        Check.same(sentence + ": due()", x.due(0), Check.NOT);
        Check.same(sentence + ": chance()", x.chance(0, 0), Check.NOT);
        Check.same(sentence + ": mildDebts()", x.mildDebts(40, 200), 2);
        Check.same(sentence + ", but it has its number", x.told(3), 2);
    }

    private static void madeAnew() {
        String sentence = "\"MADE anew: from now on, of told INCHES\"";
        SnowDays x = Check.of("n9;v0 0 0 0 1;d0 9;");
        x.night(1);
        x.pay(0);
        x.night(5);
        Check.same(sentence, x.lend(0, 18), 1);
        Check.same(sentence + ": what fell ahead of it is none of it", x.debt(0, 2), 0);
        Check.same(sentence + ": told INCHES", x.debt(0, 1), 18);
        Check.same(sentence + ": due()", x.due(0), 2);
        Check.same(sentence + ": chance()", x.chance(0, 1), 0);
        x.night(1);
        Check.same(sentence + ": not yet", x.pay(0), Check.NOT);
        x.night(1);
        Check.same(sentence + ": due", x.pay(0), 18);
        Check.same(sentence + ": a third time", x.lend(0, 1), 1);
        Check.same(sentence + ": not due at once", x.debt(0, 3), 0);
    }

    private static void movedFromNow() {
        SnowDays x = Check.of("n1;v0 0 0 0 2;v0 0 0 0 1;p0 3;d0 5;");
        Check.same("\"MOVED: his AGE then\"", x.move(0, 1), 3);
        Check.same("\"a PERSON is in another VILLAGE from now on\"", x.person(0, 0), 1);
        Check.same("a DEBT stays where it is", x.debt(0, 0), 0);
    }

    /** 9060 nights of 40 inches: no more can fall, so the 999999 of promise 7 is never passed. */
    private static void mostThatCanBe() {
        SnowDays x = Check.of("n40;v0 0 0 0 1;v0 40 40 40 40;p0 999;p1 999;d0 999;");
        Check.nights(x, 9000);
        Check.same("9000 NIGHTS are not above 9000", x.night(60), 9060);
        Check.same("FALLS", x.village(0, 2), 9060);
        Check.same("INCHES", x.village(0, 4), 362400);
        Check.same("INCHES of a DEBT", x.debt(0, 2), 362400);
        Check.same("FALLS since birth", x.person(0, 1), 10059);
        Check.same("AGE", x.person(0, 2), 10059);
        Check.same("AGE by 40", x.person(1, 2), 251);
        Check.same("OLD", x.old(0, 200), 10259);
        Check.same("MILD", x.mild(0, 40, 200), 200);
        Check.same("OLDER, below 0", x.older(0, 1), 1000 + 251 - 10059);
        Check.same("OLDER", x.older(1, 0), 1000 + 10059 - 251);
        Check.same("THE BOOK tells it", x.write(0, 9060), 1);
        Check.same("and is right", x.judge(), Check.NONE);
        Check.same("paid", x.pay(0), 362400);
        Check.same("sawed", x.saw(0, 99), 8961);
    }
}
