/** Promises 17 to 25: what is tried from now, by the winter; each leaves all as it was. */
public final class TriedTest {
    public static void main(String[] args) {
        due();
        old();
        feast();
        mild();
        mildDebts();
        older();
        chance();
        poles();
        longest();
        Check.finish("TriedTest");
    }

    private static void due() {
        SnowDays x = Check.of("n0,0,5,1;v1 9 9 9 1;d0 8;d0 4;d0 200;d0 201;d0 9;");
        Check.same("17: no debt", x.due(5), Check.UNKNOWN);
        Check.same("17: no debt", x.due(-1), Check.UNKNOWN);
        Check.same("17: eight by two fives", x.due(0), 7);
        Check.same("17: four by one", x.due(1), 3);
        Check.same("17: at 199", x.due(2), 199);
        Check.same("17: beyond 200", x.due(3), Check.NONE);
        Check.same("17: nothing changed", x.told(5) + x.debt(0, 2) + x.told(10), 0);
        x.night(2);
        Check.same("17: from now", x.due(1), 1);
        Check.same("17: behind 201 from now", x.due(3), Check.NONE);
        x.night(1);
        Check.same("17: now", x.due(1), 0);
        Check.same("17: just at 200", x.due(3), 200);
        x.pay(1);
        Check.same("17: paid", x.due(1), Check.NOT);
        x.lend(1, 1);
        Check.same("17: made anew", x.due(1), 4);
        SnowDays dry = Check.of("n1;v1 0 0 0 1;d0 1;");
        Check.same("17: never", dry.due(0), Check.NONE);
        SnowDays edge = Check.of("n0" + ",0".repeat(18) + ",40;v0 0 0 0 1;d0 400;d0 401;d0 361;");
        Check.same("17: at 200", edge.due(0), 200);
        Check.same("17: at 200", edge.due(2), 200);
        Check.same("17: at 220", edge.due(1), Check.NONE);
    }

    private static void old() {
        SnowDays x = Check.of("n0,9,9;v0 5 5 5 3;v5 1 1 1 2;v4 9 9 9 1;p0 5;p1 2;p2 8;");
        Check.same("18: no person", x.old(3, 0), Check.UNKNOWN);
        Check.same("18: no person ahead of OUTSIDE", x.old(-1, 201), Check.UNKNOWN);
        Check.same("18: old(0, -1)", x.old(0, -1), Check.OUTSIDE);
        Check.same("18: old(0, 201)", x.old(0, 201), Check.OUTSIDE);
        Check.same("18: now", x.old(0, 0), 1);
        Check.same("18: the first night is none", x.old(0, 1), 1);
        Check.same("18: a fall", x.old(0, 2), 2);
        Check.same("18: 5 and 133", x.old(0, 200), 46);
        Check.same("18: 2 and 133", x.old(1, 200), 67);
        Check.same("18: never", x.old(2, 200), 8);
        x.night(1);
        Check.same("18: from now", x.old(0, 1), 2);
        x.move(0, 1);
        Check.same("18: where he is", x.old(0, 1), 3);
        Check.same("18: nothing changed", x.person(0, 1), 5);
        Check.same("18: just the plank", Check.of("n5,4;v0 5 5 5 1;p0 0;").old(0, 100), 50);
    }

    private static void feast() {
        SnowDays x = Check.of("n9,3;v0 1 1 1 4;v5 1 1 1 3;v20 1 1 1 1;");
        Check.same("19: no village", x.feast(3, 0), Check.UNKNOWN);
        Check.same("19: no village", x.feast(0, 3), Check.UNKNOWN);
        Check.same("19: no village", x.feast(-1, 0), Check.UNKNOWN);
        Check.same("19: no village", x.feast(0, -1), Check.UNKNOWN);
        Check.same("19: one twice", x.feast(1, 1), Check.UNKNOWN);
        Check.same("19: now", x.feast(0, 1), 0);
        x.night(2);
        // poles 2, 1: 3, 2 | 4, 2 | 5, 3 (1, 0) | 6, 3 | 7, 4 | 8, 4 (0, 1) | 9, 5 (1, 2) | 10, 5 (2, 2)
        Check.same("19: two and two", x.feast(0, 1), 8);
        Check.same("19: and the other way", x.feast(1, 0), 8);
        Check.same("19: a year of one fall is at 0", x.feast(0, 2), 2);
        x.saw(0, 1);
        Check.same("19: by their poles", x.feast(0, 1), 0);
        x.saw(0, 4);
        // sawed 5 of 2: the pole tells 0 until the sixth fall
        Check.same("19: nothing, until it is above", x.feast(0, 1), 3);
        Check.same("19: nothing changed", x.told(5), 2);
        SnowDays other = Check.of("n9;v0 1 1 1 9;v0 1 1 1 9;v40 0 0 0 9;");
        other.night(2);
        other.saw(1, 3);
        Check.same("19: the other's pole tells 0", other.feast(1, 2), 0);
        Check.same("19: three apart ever on", other.feast(0, 1), Check.NONE);
        SnowDays never = Check.of("n9;v0 1 1 1 2;v0 1 1 1 2;v30 1 1 1 1;");
        never.night(2);
        never.saw(0, 1);
        Check.same("19: never", never.feast(0, 1), Check.NONE);
        SnowDays late = Check.of("n0" + ",0".repeat(18) + ",1;v0 0 0 0 40;v40 0 0 0 40;");
        for (int k = 0; k < 10; k++) {
            late.night(60);
        }
        Check.same("19: at 200", late.feast(0, 1), 200);
        late.undo();
        Check.same("19: at 260", late.feast(0, 1), Check.NONE);
        late.night(59);
        Check.same("19: at 201", late.feast(0, 1), Check.NONE);
        late.night(2);
        Check.same("19: at 199", late.feast(0, 1), 199);
    }

    private static void mild() {
        SnowDays x = Check.of("n0,3,6,9;v1 2 2 2 2;v0 1 1 1 3;p0 1;p1 5;");
        Check.same("20: no person", x.mild(2, -1, -1), Check.UNKNOWN);
        Check.same("20: no person", x.mild(-1, 0, 0), Check.UNKNOWN);
        Check.same("20: m -1", x.mild(0, -1, 0), Check.OUTSIDE);
        Check.same("20: m 41", x.mild(0, 41, 0), Check.OUTSIDE);
        Check.same("20: n -1", x.mild(0, 0, -1), Check.OUTSIDE);
        Check.same("20: n 201", x.mild(0, 0, 201), Check.OUTSIDE);
        Check.same("20: by nothing", x.mild(0, 0, 200), 0);
        Check.same("20: for no night", x.mild(0, 40, 0), 0);
        // falls 1 and 3 of 4 nights: 2 years; milder by 3: 1 and 2: 1 year; by 4: 1 and 1; by 7: none
        Check.same("20: by 3 for 4", x.mild(0, 3, 4), 1);
        Check.same("20: by 1 for 8", x.mild(0, 1, 8), 1);
        Check.same("20: by 7 for 4", x.mild(0, 7, 4), 2);
        Check.same("20: by 40 for 200", x.mild(0, 40, 200), 75);
        Check.same("20: by 9 for 200", x.mild(1, 9, 200), 50);
        Check.same("20: by 8 for 200, 55 of 155", x.mild(1, 8, 200), 33);
        x.night(1);
        Check.same("20: from now, one night of 3", x.mild(0, 1, 1), 1);
        Check.same("20: nothing changed", x.person(0, 1), 1);
    }

    private static void mildDebts() {
        SnowDays x = Check.of("n0,3,6,9;v1 2 2 2 2;v0 1 1 1 3;d0 2;d0 15;d1 18;d1 17;d0 1;");
        Check.same("21: m -1", x.mildDebts(-1, 0), Check.OUTSIDE);
        Check.same("21: m 41", x.mildDebts(41, 0), Check.OUTSIDE);
        Check.same("21: n -1", x.mildDebts(0, -1), Check.OUTSIDE);
        Check.same("21: n 201", x.mildDebts(0, 201), Check.OUTSIDE);
        Check.same("21: outside without a valley", new SnowDays().mildDebts(41, 0), Check.OUTSIDE);
        Check.same("21: none", x.mildDebts(0, 200), 0);
        Check.same("21: for no night", x.mildDebts(40, 0), 0);
        Check.same("21: just so many", Check.of("n9;v0 0 0 0 1;d0 9;d0 10;").mildDebts(1, 1), 1);
        // behind 4 nights 15 and 18 inches are there; milder by 1: 12, 15
        Check.same("21: by 1 for 4", x.mildDebts(1, 4), 2 | 4 | 8);
        Check.same("21: by 1 for 2", x.mildDebts(1, 2), 1);
        Check.same("21: by 2 for 2", x.mildDebts(2, 2), 1 | 16);
        Check.same("21: by 40 for 3", x.mildDebts(40, 3), 1 | 16);
        Check.same("21: by 40 for 4", x.mildDebts(40, 4), 31);
        x.night(2);
        Check.same("21: what is due is due", x.mildDebts(40, 200), 2 | 4 | 8);
        x.pay(0);
        x.lend(0, 9);
        x.pay(4);
        Check.same("21: paid is none", x.mildDebts(40, 200), 1 | 2 | 4 | 8);
        Check.same("21: from now", x.mildDebts(1, 1), 0);
        Check.same("21: from now, 3 and 6 of 9", x.mildDebts(2, 2), 2 | 4 | 8);
        Check.same("21: from now, 2 and 5 of 9", x.mildDebts(3, 2), 1 | 2 | 4 | 8);
        Check.same("21: nothing changed", x.told(5), 2);
        SnowDays half = Check.of("n9;v0 0 0 0 1;d0 18;");
        half.night(1);
        Check.same("21: for no night, from now", half.mildDebts(1, 0), 0);
        Check.same("21: for one, from now", half.mildDebts(1, 1), 1);
    }

    private static void older() {
        SnowDays x = Check.of("n9;v0 1 1 1 5;v0 1 1 1 2;v0 1 1 1 40;p0 999;p1 7;");
        Check.same("22: no person", x.older(2, 0), Check.UNKNOWN);
        Check.same("22: no person", x.older(-1, 0), Check.UNKNOWN);
        Check.same("22: no village", x.older(0, 3), Check.UNKNOWN);
        Check.same("22: no village", x.older(0, -1), Check.UNKNOWN);
        Check.same("22: older", x.older(0, 1), 1000 + 499 - 199);
        Check.same("22: younger", x.older(0, 2), 1000 + 24 - 199);
        Check.same("22: at home", x.older(0, 0), 1000);
        Check.same("22: younger", x.older(1, 0), 998);
        x.move(1, 0);
        x.night(1);
        Check.same("22: from where he is", x.older(1, 1), 1003);
        SnowDays most = Check.of("n9;v0 1 1 1 40;v0 1 1 1 1;p1 999;p0 999;");
        nightsAndMost(most);
    }

    private static void nightsAndMost(SnowDays most) {
        Check.nights(most, 3000);
        Check.same("22: below 0 too", most.older(0, 0), 1000 + 3999 / 40 - 3999);
        Check.same("22: far above", most.older(1, 1), 1000 + 3999 - 3999 / 40);
    }

    private static void chance() {
        SnowDays x = Check.of("n0,4,4;v1 0 0 0 1;v0 0 0 0 1;d0 3;d0 6;d1 999;d1 9;d0 4;");
        Check.same("23: no debt", x.chance(5, -1), Check.UNKNOWN);
        Check.same("23: no debt", x.chance(-1, 0), Check.UNKNOWN);
        Check.same("23: n -1", x.chance(0, -1), Check.OUTSIDE);
        Check.same("23: n 31", x.chance(0, 31), Check.OUTSIDE);
        Check.same("23: now", x.chance(0, 0), 0);
        Check.same("23: two of three", x.chance(0, 1), 666666);
        Check.same("23: and the rest is lost", x.chance(0, 2), 666666 + 2 * 111111);
        Check.same("23: two nights for 6", x.chance(1, 2), 4 * (333333 / 3));
        // 6: 333333; 3: 666666 | 6: 111111; 3: 111111 * 2 + 222222 * 1; 0: 444444 | 0: 444444 + 2 * 148148
        Check.same("23: three nights for 6", x.chance(1, 3), 444444 + 2 * 148148);
        Check.same("23: too much", x.chance(2, 30), 0);
        Check.same("23: one inch more", x.chance(4, 1), 0);
        x.night(3);
        Check.same("23: due", x.chance(0, 0), 1000000);
        Check.same("23: due", x.chance(0, 30), 1000000);
        Check.same("23: it lacks 1", x.chance(3, 1), 666666);
        x.pay(0);
        Check.same("23: paid", x.chance(0, 1), Check.NOT);
        Check.same("23: paid, OUTSIDE first", x.chance(0, 31), Check.OUTSIDE);
        Check.same("23: nothing changed", x.told(5), 3);
        justDue();
        Check.same("23: sure", Check.of("n40;v0 0 0 0 1;d0 999;").chance(0, 25), 1000000);
        Check.same("23: sure, a night ahead", Check.of("n40;v0 0 0 0 1;d0 999;").chance(0, 24), 0);
        SnowDays twenty = Check.of("n1" + ",0".repeat(19) + ";v0 0 0 0 1;d0 1;");
        int rest = 1000000;
        int due = 0;
        for (int n = 0; n <= 30; n++) {
            Check.same("23: one of twenty", twenty.chance(0, n), due);
            due += rest / 20;
            rest = rest / 20 * 19;
        }
    }

    private static void justDue() {
        SnowDays x = Check.of("n5,0;v0 0 0 0 1;d0 5;d0 4;d0 6;d0 10;");
        x.night(1);
        Check.same("23: it lacks 0", x.chance(0, 0), 1000000);
        Check.same("23: \"0 at least\"", x.chance(1, 0), 1000000);
        Check.same("23: \"0 at least\", what lies at 0 is not parted", x.chance(1, 30), 1000000);
        Check.same("23: it lacks 1", x.chance(2, 0), 0);
        Check.same("23: it lacks 1, and more comes", x.chance(2, 1), 500000);
        Check.same("23: it lacks just what comes", x.chance(3, 1), 500000);
        int lies = 1000000;
        int due = 0;
        for (int n = 0; n <= 30; n++) {
            Check.same("23: \"cut, the rest is lost\", behind " + n, x.chance(3, n), due);
            due += lies / 2;
            lies /= 2;
        }
        Check.holds("23: some was lost", due < 1000000);
    }

    private static void poles() {
        Check.same("24: no village", Check.of("n1;").poles(), 0);
        Check.same("24: one", Check.of("n1;v0 0 0 0 1;").poles(), 1);
        Check.same("24: all alike", Check.of("n0,9;v0 9 9 9 1;v0 1 1 1 3;v8 1 1 1 2;v3 2 6 9 2;").poles(), 1);
        Check.same("24: all their own", Check.of("n0,9,5,7;v0 9 9 9 1;v0 1 1 1 3;v0 7 7 7 2;v40 2 6 9 2;").poles(), 4);
        Check.same("24: two and two", Check.of("n0,9,5;v0 9 9 9 1;v0 5 5 5 3;v8 1 1 1 2;v3 2 2 9 2;").poles(), 2);
        SnowDays x = Check.of("n1,1;v0 1 1 1 1;v0 1 1 1 1;");
        x.seed(1);
        x.drift(30);
        Check.same("24: by the nights that come alone", x.poles(), 1);
        SnowDays last = Check.of("n0" + ",0".repeat(18) + ",1;v0 1 1 1 1;v0 2 2 2 1;");
        Check.same("24: the 20th night", last.poles(), 2);
        SnowDays moved = Check.of("n3,9;v0 9 9 9 1;v0 4 4 4 1;v0 3 3 3 1;");
        Check.same("24: two", moved.poles(), 2);
        moved.night(1);
        Check.same("24: two", moved.poles(), 2);
        Check.same("24: nothing changed", moved.told(5), 1);
    }

    private static void longest() {
        SnowDays x = Check.of("n0,0,5,1,1,1,7;v0 5 5 5 1;v0 6 6 6 1;v0 8 8 8 1;v0 0 0 0 1;");
        Check.same("25: no village", x.longest(4), Check.UNKNOWN);
        Check.same("25: no village", x.longest(-1), Check.UNKNOWN);
        Check.same("25: three", x.longest(0), 3);
        Check.same("25: six", x.longest(1), 6);
        Check.same("25: all hundred", x.longest(2), 100);
        Check.same("25: over the winter's end", x.longest(3), 2);
        SnowDays y = Check.of("n9" + ",0".repeat(19) + ";v0 1 1 1 1;");
        Check.same("25: nineteen", y.longest(0), 19);
        y.night(1);
        Check.same("25: from now", y.longest(0), 19);
        Check.same("25: nothing changed", y.told(5), 1);
        SnowDays z = Check.of("n9,0;v0 1 1 1 1;v0 0 0 0 1;");
        Check.same("25: one", z.longest(0), 1);
        Check.same("25: none", Check.of("n1;v0 0 0 0 1;").longest(0), 0);
    }
}
