/** Promises 1 to 9: the text and what can be looked at. */
public final class ValleyTest {
    public static void main(String[] args) {
        newObject();
        feed();
        soundTexts();
        misplaced();
        badNumbers();
        tooMany();
        valleyMakesAnew();
        faultLeavesAll();
        endOfText();
        told();
        winter();
        village();
        person();
        debt();
        Check.finish("ValleyTest");
    }

    private static void newObject() {
        SnowDays x = new SnowDays();
        for (int what = 0; what <= 10; what++) {
            Check.same("1: told(" + what + ")", x.told(what), 0);
        }
        Check.same("1: fault", x.fault(), Check.NONE);
        Check.same("1: winter", x.winter(0), Check.NOT);
        Check.same("1: village", x.village(0, 0), Check.UNKNOWN);
        Check.same("1: person", x.person(0, 0), Check.UNKNOWN);
        Check.same("1: debt", x.debt(0, 0), Check.UNKNOWN);
        Check.same("1: poles", x.poles(), 0);
        Check.same("1: sawn", x.sawn(-1), 0);
        Check.same("1: ask", x.ask(), Check.NONE);
        Check.same("1: judge", x.judge(), Check.NONE);
        Check.same("1: tear", x.tear(), 0);
        Check.same("1: seed", x.seed(5), 0);
        Check.same("1: goBack", x.goBack(0), Check.NOT);
    }

    private static void feed() {
        SnowDays x = new SnowDays();
        Check.same("2: feed(-1)", x.feed(-1), Check.OUTSIDE);
        Check.same("2: feed(256)", x.feed(256), Check.OUTSIDE);
        Check.same("2: feed(0)", x.feed(0), 1);
        Check.same("2: feed(255)", x.feed(255), 2);
        for (int k = 3; k <= 240; k++) {
            Check.same("2: feed(32)", x.feed(32), k);
        }
        Check.same("2: feed, full", x.feed(32), Check.FULL);
        Check.same("2: feed(256), full", x.feed(256), Check.OUTSIDE);
        Check.same("2: letters", x.told(4), 240);
        Check.same("2: valley", x.valley(), -11);
        Check.same("2: fault", x.fault(), 0);
        Check.same("2: letters behind it", x.told(4), 0);
        Check.same("2: feed anew", x.feed('n'), 1);
    }

    private static void sound(String text, int villages) {
        SnowDays x = new SnowDays();
        Check.same("3: '" + text + "'", Check.valley(x, text), villages);
        Check.same("4: fault of '" + text + "'", x.fault(), Check.NONE);
        Check.same("3: the text behind '" + text + "'", x.told(4), 0);
    }

    private static void faulty(String text, int kind, int at) {
        SnowDays x = new SnowDays();
        Check.same("3: '" + text + "'", Check.valley(x, text), -10 - kind);
        Check.same("4: fault of '" + text + "'", x.fault(), at);
        Check.same("3: the text behind '" + text + "'", x.told(4), 0);
        Check.same("3: no winter by '" + text + "'", x.told(0), 0);
    }

    private static void soundTexts() {
        sound("", 0);
        sound(" ", 0);
        sound("   ", 0);
        sound(" ".repeat(240), 0);
        sound("n0;", 0);
        sound("n40;", 0);
        sound("n040 , 000;", 0);
        sound("  n  1  ,  2  ;  ", 0);
        sound("n1;v0 0 0 0 1;", 1);
        sound("n1;v40 40 40 40 40;", 1);
        sound("n1 ; v 0 0 0  0 001 ;p0 999;p 0 0 ; d0 1;d0 999;", 1);
        sound("n1;v0 0 0 0 1;v0 0 0 0 1;p1 5;d1 5;v0 0 0 0 1;v0 0 0 0 1;d3 5;p3 5;", 4);
        sound(Check.SLOPE, 3);
        SnowDays x = Check.of("n" + "1,".repeat(19) + "2;");
        Check.same("3: twenty numbers", x.told(0), 20);
        Check.same("3: the twentieth", x.winter(19), 2);
        Check.same("3: the first", x.winter(20), 1);
        sound("n1;" + "v0 0 0 0 1;".repeat(4) + "p0 1;".repeat(6) + "d0 1;".repeat(5), 4);
        String sixteen = "n1;v0 0 0 0 1;  ";
        SnowDays full = Check.of(sixteen + " ".repeat(240 - sixteen.length() - 5) + "d0 7;");
        Check.same("3: a debt at the end of 240 letters", full.debt(0, 1), 7);
    }

    private static void misplaced() {
        faulty("   x", 1, 3);
        faulty(" ; ", 1, 1);
        faulty("v0 0 0 0 1;", 1, 0);
        faulty("  p", 1, 2);
        faulty("1", 1, 0);
        faulty(";", 1, 0);
        faulty("N1;", 1, 0);
        faulty("n", 1, 1);
        faulty("n ", 1, 2);
        faulty("n;", 1, 1);
        faulty("n,1;", 1, 1);
        faulty("n1", 1, 2);
        faulty("n1 ", 1, 3);
        faulty("n1,", 1, 3);
        faulty("n1,;", 1, 3);
        faulty("n1 2;", 1, 3);
        faulty("n1 2345;", 1, 3);
        faulty("n1v", 1, 2);
        faulty("n1n", 1, 2);
        faulty("nn", 1, 1);
        faulty("n-1;", 1, 1);
        faulty("n1;;", 1, 3);
        faulty("n1;5", 1, 3);
        faulty("n1; ,", 1, 4);
        faulty("n1;x", 1, 3);
        faulty("n1;\t", 1, 3);
        faulty("n1;" + (char) 255, 1, 3);
        faulty("n1;" + (char) 0, 1, 3);
        faulty("n1;v", 1, 4);
        faulty("n1;v0 0 0 0;", 1, 11);
        faulty("n1;v0 0 0 0 1", 1, 13);
        faulty("n1;v0 0 0 0 1 1;", 1, 14);
        faulty("n1;v0,0 0 0 1;", 1, 5);
        faulty("n1;v0 0 0 0 1;p0;", 1, 16);
        faulty("n1;v0 0 0 0 1;p0 1 1;", 1, 19);
        faulty("n1;v0 0 0 0 1;d0 1", 1, 18);
        faulty("n1;v0 0 0 0 1;d0 1v", 1, 18);
        faulty("n1;v0 0 0 0 1;d0 n", 1, 17);
        faulty("n" + "1,".repeat(20), 1, 40);
        faulty("n" + "1,".repeat(19) + "1 ,1;", 1, 41);
        faulty("n" + "1,".repeat(20) + "99;", 1, 40);
        faulty("n" + "1,".repeat(19) + "1 1;", 1, 41);
    }

    private static void badNumbers() {
        faulty("n41;", 2, 1);
        faulty("n 41", 2, 2);
        faulty("n041x", 2, 1);
        faulty("n0000;", 2, 1);
        faulty("n1,0001;", 2, 3);
        faulty("n1,999", 2, 3);
        faulty("n99999999999999999999;", 2, 1);
        faulty("n4294967297;", 2, 1);
        faulty("n1;v41 0 0 0 1;", 2, 4);
        faulty("n1;v0 41 0 0 1;", 2, 6);
        faulty("n1;v0 0 41 0 1;", 2, 8);
        faulty("n1;v0 0 0 41 1;", 2, 10);
        faulty("n1;v0 0 0 0 0;", 2, 12);
        faulty("n1;v0 0 0 0 41;", 2, 12);
        faulty("n1;v00001", 2, 4);
        faulty("n1;p0 1;", 2, 4);
        faulty("n1;d0 1;", 2, 4);
        faulty("n1;v0 0 0 0 1;p1 1;", 2, 15);
        faulty("n1;v0 0 0 0 1;d1 1;v0 0 0 0 1;", 2, 15);
        faulty("n1;v0 0 0 0 1;p0 1000;", 2, 17);
        faulty("n1;v0 0 0 0 1;p0000 1;", 2, 15);
        faulty("n1;v0 0 0 0 1;d0 0;", 2, 17);
        faulty("n1;v0 0 0 0 1;d0 000;", 2, 17);
        faulty("n1;v0 0 0 0 1;d0 0999;", 2, 17);
    }

    private static void tooMany() {
        faulty("n1;n", 3, 3);
        faulty("n1; n1;", 3, 4);
        String four = "n1;" + "v0 0 0 0 1;".repeat(4);
        faulty(four + "v", 3, 47);
        faulty(four + " v99", 3, 48);
        faulty("n1;v0 0 0 0 1;" + "p0 1;".repeat(6) + "p", 3, 44);
        faulty("n1;v0 0 0 0 1;" + "d0 1;".repeat(5) + "d", 3, 39);
        faulty("n1;v0 0 0 0 1;" + "d0 1;".repeat(5) + "n", 3, 39);
    }

    private static void valleyMakesAnew() {
        SnowDays x = Check.of(Check.SLOPE);
        x.seed(77);
        x.night(7);
        x.saw(0, 2);
        x.say(0, 5);
        x.write(1, 5);
        x.keep(1);
        x.night(1);
        Check.same("3: anew", Check.valley(x, "n9;v0 1 1 1 1;p0 3;d0 5;"), 1);
        int[] due = {1, 1, 1, 1, 0, 0, 0, 0, 0, 0, 0};
        for (int what = 0; what <= 10; what++) {
            Check.same("3: told(" + what + ") anew", x.told(what), due[what]);
        }
        for (int what = 2; what <= 5; what++) {
            Check.same("3: village(0, " + what + ") anew", x.village(0, what), 0);
        }
        Check.same("3: person anew", x.person(0, 1), 3);
        Check.same("3: debt anew", x.debt(0, 2), 0);
        Check.same("3: images are gone", x.goBack(1), Check.NOT);
        Check.same("3: nothing to undo", x.undo(), Check.NOT);
        Check.same("3: the seed stays", x.seed(1), 77);
        noValleyBy("");
        noValleyBy(" ");
        noValleyBy(" ".repeat(240));
    }

    private static void noValleyBy(String text) {
        SnowDays x = Check.of(Check.SLOPE);
        x.seed(77);
        x.night(7);
        x.say(0, 5);
        x.write(1, 5);
        x.keep(0);
        x.night(1);
        Check.valley(x, "n1");
        String by = "3: no valley by " + text.length() + " blanks, ";
        Check.same(by + "villages", Check.valley(x, text), 0);
        Check.same(by + "fault", x.fault(), Check.NONE);
        for (int what = 0; what <= 10; what++) {
            Check.same(by + "told(" + what + ")", x.told(what), 0);
        }
        Check.same(by + "winter", x.winter(0), Check.NOT);
        Check.same(by + "images", x.goBack(0), Check.NOT);
        Check.same(by + "undo", x.undo(), Check.NOT);
        Check.same(by + "nights", x.night(1), Check.NOT);
        Check.same(by + "the seed stays", x.seed(1), 77);
    }

    private static void faultLeavesAll() {
        SnowDays x = Check.of(Check.SLOPE);
        x.night(7);
        x.keep(1);
        x.night(1);
        x.saw(0, 2);
        x.say(0, 5);
        x.write(1, 5);
        Check.same("3: a fault", Check.valley(x, "n3;v9 9 9 9 9;p0 9;d0 9;q"), -11);
        Check.same("4: its letter", x.fault(), 24);
        int[] due = {5, 3, 3, 3, 0, 8, 3, 9, 1, 1, 2};
        for (int what = 0; what <= 10; what++) {
            Check.same("3: told(" + what + ") behind a fault", x.told(what), due[what]);
        }
        Check.same("3: its winter", x.winter(4), 20);
        Check.same("3: its village", x.village(0, 1), 4);
        Check.same("3: its person", x.person(2, 1), 8);
        Check.same("3: its debt", x.debt(2, 1), 40);
        Check.same("3: undone", x.undo(), 1);
        Check.same("4: the latest", x.fault(), 24);
        Check.same("3: image", x.goBack(1), 1);
        Check.same("3: image's nights", x.told(5), 7);
        Check.same("4: sound", Check.valley(x, "n1;"), 0);
        Check.same("4: none", x.fault(), Check.NONE);
        Check.same("4: a fault", Check.valley(x, "n1"), -11);
        Check.same("4: its letter", x.fault(), 2);
        Check.same("4: empty", x.valley(), 0);
        Check.same("4: none", x.fault(), Check.NONE);
    }

    /** What an earlier text left behind the end of this one is no part of it. */
    private static void endOfText() {
        SnowDays x = Check.of("n12;v0 0 0 0 1;");
        Check.same("3: a shorter text", Check.valley(x, "n1"), -11);
        Check.same("4: its end", x.fault(), 2);
        Check.valley(x, "n   2;");
        Check.same("3: a shorter text", Check.valley(x, "n "), -11);
        Check.same("4: its end", x.fault(), 2);
        Check.same("3: blanks over an earlier text", Check.valley(x, "  "), 0);
        Check.same("4: none", x.fault(), Check.NONE);
        SnowDays full = new SnowDays();
        Check.same("3: a full text that ends in a number", Check.valley(full, " ".repeat(238) + "n1"), -11);
        Check.same("4: its end", full.fault(), 240);
        Check.same("3: a full text but for its last letter", Check.valley(full, " ".repeat(239) + "n"), -11);
        Check.same("4: its end", full.fault(), 240);
        SnowDays figures = new SnowDays();
        Check.same("3: a full text of figures", Check.valley(figures, "n" + "1".repeat(239)), -12);
        Check.same("4: its number", figures.fault(), 1);
    }

    private static void told() {
        SnowDays x = Check.of(Check.SLOPE);
        Check.same("5: told(-1)", x.told(-1), Check.OUTSIDE);
        Check.same("5: told(11)", x.told(11), Check.OUTSIDE);
        Check.same("5: green", x.told(7), 1 | 8);
        x.feed('n');
        Check.same("5: letters", x.told(4), 1);
        x.night(3);
        Check.same("5: nights", x.told(5), 3);
        Check.same("5: due, d1 has 11 of 12", x.told(6), 0);
        x.night(2);
        Check.same("5: due, d0 has 39 of 30, d1 28 of 12, d2 12 of 40", x.told(6), 3);
        x.pay(0);
        Check.same("5: a paid one is not due", x.told(6), 2);
        Check.same("5: undone can be", x.told(10), 3);
        x.say(0, 1);
        x.say(0, 1);
        x.write(0, 1);
        Check.same("5: ages", x.told(8), 2);
        Check.same("5: book", x.told(9), 1);
        Check.same("5: green without villages", Check.of("n0,40,7;").told(7), 7);
        Check.same("5: green, twenty", Check.of("n" + "0,".repeat(19) + "0;v0 0 0 0 1;").told(7), (1 << 20) - 1);
        Check.same("5: green by the driest only", Check.of("n1,2,3;v1 0 0 0 1;v2 0 0 0 1;").told(7), 1);
    }

    private static void winter() {
        SnowDays x = new SnowDays();
        Check.same("6: winter(-1), no valley", x.winter(-1), Check.OUTSIDE);
        Check.same("6: winter(10000), no valley", x.winter(10000), Check.OUTSIDE);
        Check.same("6: winter(9999), no valley", x.winter(9999), Check.NOT);
        Check.valley(x, "n3,4,5;");
        Check.same("6: winter(0)", x.winter(0), 3);
        Check.same("6: winter(4)", x.winter(4), 4);
        Check.same("6: winter(9998)", x.winter(9998), 5);
        Check.same("6: winter(9999)", x.winter(9999), 3);
        Check.same("6: winter(-1)", x.winter(-1), Check.OUTSIDE);
        Check.same("6: winter(10000)", x.winter(10000), Check.OUTSIDE);
        x.night(1);
        Check.same("6: it does not go with the nights", x.winter(0), 3);
    }

    private static void village() {
        SnowDays x = Check.of(Check.SLOPE);
        Check.same("7: no village", x.village(3, 0), Check.UNKNOWN);
        Check.same("7: no village", x.village(-1, 99), Check.UNKNOWN);
        Check.same("7: what -1", x.village(0, -1), Check.OUTSIDE);
        Check.same("7: what 7", x.village(0, 7), Check.OUTSIDE);
        x.night(5);
        x.saw(1, 2);
        int[] due = {3, 3, 3, 1, 28, 2, 5};
        for (int what = 0; what <= 6; what++) {
            Check.same("7: village(1, " + what + ")", x.village(1, what), due[what]);
        }
        Check.same("7: the driest", x.village(2, 4), 12);
        Check.same("7: planks of 0 need an inch", Check.of("n1;v3 0 0 40 1;").village(0, 6), 4);
        Check.same("7: the middle plank", Check.of("n1;v3 9 40 7 1;").village(0, 6), 12);
        Check.same("7: the middle plank", Check.of("n1;v3 40 7 9 1;").village(0, 6), 12);
        Check.same("7: the middle plank", Check.of("n1;v3 7 9 40 1;").village(0, 6), 12);
        Check.same("7: the middle plank", Check.of("n1;v3 9 7 40 1;").village(0, 6), 12);
        Check.same("7: the middle plank", Check.of("n1;v3 40 9 7 1;").village(0, 6), 12);
        Check.same("7: above any night", Check.of("n1;v40 40 40 40 1;").village(0, 6), 80);
        SnowDays edge = Check.of("n12,11,3;v3 9 7 40 1;");
        edge.night(1);
        Check.same("7: a fall from it on", edge.village(0, 2), 1);
        edge.night(2);
        Check.same("7: none below", edge.village(0, 2), 1);
        Check.same("7: but it fell", edge.village(0, 4), 9 + 8);
        SnowDays none = Check.of("n3,4;v3 0 0 0 1;");
        none.night(1);
        Check.same("7: nothing fell, no fall", none.village(0, 2), 0);
        none.night(1);
        Check.same("7: an inch, a fall", none.village(0, 2), 1);
    }

    private static void person() {
        SnowDays x = Check.of(Check.SLOPE);
        Check.same("8: no person", x.person(3, 0), Check.UNKNOWN);
        Check.same("8: no person", x.person(-1, 9), Check.UNKNOWN);
        Check.same("8: what -1", x.person(0, -1), Check.OUTSIDE);
        Check.same("8: what 3", x.person(0, 3), Check.OUTSIDE);
        Check.same("8: at home", x.person(2, 0), 2);
        Check.same("8: falls", x.person(2, 1), 7);
        Check.same("8: age", x.person(2, 2), 3);
        x.night(5);
        Check.same("8: falls of his village", x.person(2, 1), 8);
        Check.same("8: falls of his village", x.person(0, 1), 23);
        x.saw(0, 50);
        Check.same("8: a sawed pole makes nobody younger", x.person(0, 2), 5);
        x.move(0, 2);
        x.night(5);
        Check.same("8: falls of the village he went to", x.person(0, 1), 24);
        Check.same("8: its years", x.person(0, 2), 12);
        Check.same("8: he is there", x.person(0, 0), 2);
    }

    private static void debt() {
        SnowDays x = Check.of(Check.SLOPE);
        Check.same("9: no debt", x.debt(3, 0), Check.UNKNOWN);
        Check.same("9: no debt", x.debt(-1, 9), Check.UNKNOWN);
        Check.same("9: what -1", x.debt(0, -1), Check.OUTSIDE);
        Check.same("9: what 4", x.debt(0, 4), Check.OUTSIDE);
        Check.same("9: where", x.debt(2, 0), 2);
        Check.same("9: inches", x.debt(2, 1), 40);
        x.night(5);
        Check.same("9: since", x.debt(1, 2), 28);
        Check.same("9: due", x.debt(1, 3), 1);
        Check.same("9: not due", x.debt(2, 3), 0);
        x.pay(1);
        x.night(5);
        Check.same("9: paid, of 0", x.debt(1, 1), 0);
        Check.same("9: paid, it is no more", x.debt(1, 2), 0);
        Check.same("9: paid, not due", x.debt(1, 3), 0);
        Check.same("9: paid, where", x.debt(1, 0), 1);
        x.lend(1, 2);
        Check.same("9: anew", x.debt(1, 2), 0);
        x.night(2);
        Check.same("9: due at just so many", x.debt(1, 3), 1);
    }
}
