/** Section 1, sentence by sentence: each bound of the text at it, below it and beyond it. What stands in quotes is the document's. */
public final class TextBoundsTest {
    /** A winter and a village: 14 letters. */
    private static final String ONE = "n1;v0 0 0 0 1;";
    private static final String FOUR = "n1;" + "v0 0 0 0 1;".repeat(4);

    public static void main(String[] args) {
        lettersAtMost();
        numbersOfTheWinter();
        inches();
        nightOfTheWinter();
        winterFirstOnce();
        villagesAtMost();
        villageNumbers();
        personsAtMost();
        personNumbers();
        debtsAtMost();
        debtNumbers();
        numbersFromNought();
        figures();
        blanks();
        sideBySide();
        everyEnd();
        everyLetter();
        firstLetterWithAFault();
        leastFaultAtALetter();
        faultsOfTheThirdKind();
        emptyText();
        Check.finish("TextBoundsTest");
    }

    private static SnowDays sound(String sentence, String text, int villages) {
        SnowDays x = new SnowDays();
        String label = "\"" + sentence + "\" in '" + text + "'";
        Check.same(label, Check.valley(x, text), villages);
        Check.same(label + ", fault", x.fault(), Check.NONE);
        return x;
    }

    private static void faulty(String sentence, String text, int kind, int at) {
        SnowDays x = new SnowDays();
        String label = "\"" + sentence + "\" in '" + text + "'";
        Check.same(label, Check.valley(x, text), -10 - kind);
        Check.same(label + ", fault", x.fault(), at);
        Check.same(label + ", no valley by it", x.told(0), 0);
    }

    private static void lettersAtMost() {
        String sentence = "240 letters at most";
        String text = ONE + " ".repeat(240 - ONE.length() - 5) + "d0 7;";
        Check.holds("the text is full", text.length() == 240);
        Check.same(sentence, sound(sentence, text, 1).debt(0, 1), 7);
        SnowDays x = new SnowDays();
        Check.feed(x, text);
        Check.same(sentence + ": the 241st", x.feed('x'), Check.FULL);
        Check.same(sentence + ": still 240", x.told(4), 240);
        Check.same(sentence + ": it is no part of the text", x.valley(), 1);
        Check.same(sentence + ": nor of the next", Check.valley(x, "n1;"), 0);
    }

    private static void numbersOfTheWinter() {
        String sentence = "1 to 20 numbers";
        faulty(sentence, "n;", 1, 1);
        faulty(sentence, "n ;", 1, 2);
        Check.same(sentence, sound(sentence, "n5;", 0).told(0), 1);
        Check.same(sentence, sound(sentence, "n5,6;", 0).told(0), 2);
        Check.same(sentence, sound(sentence, "n5" + ",6".repeat(18) + ";", 0).told(0), 19);
        Check.same(sentence, sound(sentence, "n5" + ",6".repeat(19) + ";", 0).told(0), 20);
        String twenty = "n5" + ",6".repeat(19);
        faulty("a 21st I: at its ','", twenty + ",7;", 1, 40);
        faulty("a 21st I: at its ','", twenty + ",", 1, 40);
        faulty("a 21st I: at its ','", twenty + ",x", 1, 40);
        faulty("a 21st I: at its ','", twenty + ",41;", 1, 40);
        faulty("a 21st I: at its ','", twenty + ",1234;", 1, 40);
        faulty("a 21st I: at its ','", twenty + "  ,7;", 1, 42);
        faulty("a 21st I: at its ','", twenty + ",7,8,9;", 1, 40);
        faulty("a 20th of four figures comes ahead of it", "n5" + ",6".repeat(18) + ",0006,7;", 2, 39);
    }

    private static void inches() {
        String sentence = "0 .. 40, INCHES";
        Check.same(sentence, sound(sentence, "n0;", 0).winter(0), 0);
        Check.same(sentence, sound(sentence, "n40;", 0).winter(0), 40);
        faulty(sentence, "n41;", 2, 1);
        faulty(sentence, "n999;", 2, 1);
        faulty(sentence, "n-1;", 1, 1);
        String nineteen = "n" + "0,".repeat(19);
        Check.same(sentence, sound(sentence, nineteen + "40;", 0).winter(19), 40);
        faulty(sentence, nineteen + "41;", 2, 39);
    }

    private static void nightOfTheWinter() {
        String sentence = "NIGHT k has the one of k left over by how many";
        for (int many = 1; many <= 20; many++) {
            StringBuilder text = new StringBuilder("n0");
            for (int k = 1; k < many; k++) {
                text.append(",").append(k);
            }
            SnowDays x = sound(sentence, text + ";", 0);
            Check.same(sentence + ": the last", x.winter(many - 1), many - 1);
            Check.same(sentence + ": the first again", x.winter(many), 0);
            Check.same(sentence + ": the last again", x.winter(2 * many - 1), many - 1);
            Check.same(sentence + ": 9999", x.winter(9999), 9999 % many);
        }
    }

    private static void winterFirstOnce() {
        String sentence = "first, once";
        faulty(sentence, "v0 0 0 0 1;n1;", 1, 0);
        faulty(sentence, "p0 1;", 1, 0);
        faulty(sentence, "d0 1;", 1, 0);
        faulty(sentence, ",", 1, 0);
        faulty(sentence, " ;n1;", 1, 1);
        faulty(sentence, "0n1;", 1, 0);
        faulty(sentence, "n1;n1;", 3, 3);
        faulty(sentence, ONE + "n1;", 3, 14);
        sound(sentence, "n1;", 0);
    }

    private static void villagesAtMost() {
        String sentence = "4 VILLAGES at most";
        for (int many = 0; many <= 4; many++) {
            SnowDays x = sound(sentence, "n1;" + "v0 0 0 0 1;".repeat(many), many);
            Check.same(sentence, x.told(1), many);
            Check.same(sentence + ": the last", x.village(many - 1, 1), many == 0 ? Check.UNKNOWN : 1);
            Check.same(sentence + ": one more there is not", x.village(many, 1), Check.UNKNOWN);
        }
        faulty(sentence, FOUR + "v0 0 0 0 1;", 3, 47);
    }

    private static void villageNumbers() {
        SnowDays least = sound("lies D dry, 0 .. 40", "n1;v0 0 0 0 1;", 1);
        Check.same("lies 0 dry", least.village(0, 0), 0);
        Check.same("1 FALL a year", least.village(0, 1), 1);
        Check.same("planks of 0", least.village(0, 6), 1);
        SnowDays most = sound("lies D dry, 0 .. 40", "n1;v40 40 40 40 40;", 1);
        Check.same("lies 40 dry", most.village(0, 0), 40);
        Check.same("40 FALLS a year", most.village(0, 1), 40);
        Check.same("planks of 40", most.village(0, 6), 80);
        faulty("lies D dry, 0 .. 40", "n1;v41 0 0 0 1;", 2, 4);
        faulty("planks A, B, C, 0 .. 40", "n1;v0 41 0 0 1;", 2, 6);
        faulty("planks A, B, C, 0 .. 40", "n1;v0 0 41 0 1;", 2, 8);
        faulty("planks A, B, C, 0 .. 40", "n1;v0 0 0 41 1;", 2, 10);
        faulty("Y FALLS a year, 1 .. 40", "n1;v0 0 0 0 0;", 2, 12);
        faulty("Y FALLS a year, 1 .. 40", "n1;v0 0 0 0 000;", 2, 12);
        faulty("Y FALLS a year, 1 .. 40", "n1;v0 0 0 0 41;", 2, 12);
        faulty("'v' D A B C Y ';': one less", "n1;v0 0 0 1;", 1, 11);
        faulty("'v' D A B C Y ';': one more", "n1;v0 0 0 0 1 1;", 1, 14);
        faulty("'v' D A B C Y ';': none", "n1;v;", 1, 4);
    }

    private static void personsAtMost() {
        String sentence = "6 PERSONS at most";
        for (int many = 0; many <= 6; many++) {
            SnowDays x = sound(sentence, ONE + "p0 5;".repeat(many), 1);
            Check.same(sentence, x.told(2), many);
            Check.same(sentence + ": the last", x.person(many - 1, 1), many == 0 ? Check.UNKNOWN : 5);
            Check.same(sentence + ": one more there is not", x.person(many, 1), Check.UNKNOWN);
        }
        faulty(sentence, ONE + "p0 5;".repeat(7), 3, 44);
    }

    private static void personNumbers() {
        String ahead = "in VILLAGE V told ahead";
        Check.same(ahead, sound(ahead, FOUR + "p0 1;", 4).person(0, 0), 0);
        Check.same(ahead, sound(ahead, FOUR + "p3 1;", 4).person(0, 0), 3);
        Check.same(ahead, sound(ahead, FOUR + "p003 1;", 4).person(0, 0), 3);
        faulty(ahead, FOUR + "p4 1;", 2, 48);
        faulty(ahead, FOUR + "p999 1;", 2, 48);
        faulty(ahead, "n1;p0 1;v0 0 0 0 1;", 2, 4);
        faulty(ahead, ONE + "p1 1;v0 0 0 0 1;", 2, 15);
        sound(ahead, ONE + "v0 0 0 0 1;p1 1;", 2);
        faulty("a VILLAGE that was not told yet (at its first)", ONE + "p  012 1;", 2, 17);
        String born = "born F FALLS ago, 0 .. 999";
        Check.same(born, sound(born, ONE + "p0 0;", 1).person(0, 1), 0);
        Check.same(born, sound(born, ONE + "p0 999;", 1).person(0, 1), 999);
        faulty(born, ONE + "p0 1000;", 2, 17);
        faulty("'p' V F ';': one less", ONE + "p0;", 1, 16);
        faulty("'p' V F ';': one more", ONE + "p0 1 1;", 1, 19);
        faulty("'p' V F ';': none", ONE + "p;", 1, 15);
    }

    private static void debtsAtMost() {
        String sentence = "5 DEBTS at most";
        for (int many = 0; many <= 5; many++) {
            SnowDays x = sound(sentence, ONE + "d0 5;".repeat(many), 1);
            Check.same(sentence, x.told(3), many);
            Check.same(sentence + ": the last", x.debt(many - 1, 1), many == 0 ? Check.UNKNOWN : 5);
            Check.same(sentence + ": one more there is not", x.debt(many, 1), Check.UNKNOWN);
        }
        faulty(sentence, ONE + "d0 5;".repeat(6), 3, 39);
    }

    private static void debtNumbers() {
        String ahead = "in VILLAGE V told ahead";
        Check.same(ahead, sound(ahead, FOUR + "d0 1;", 4).debt(0, 0), 0);
        Check.same(ahead, sound(ahead, FOUR + "d3 1;", 4).debt(0, 0), 3);
        faulty(ahead, FOUR + "d4 1;", 2, 48);
        faulty(ahead, "n1;d0 1;v0 0 0 0 1;", 2, 4);
        faulty(ahead, ONE + "d1 1;v0 0 0 0 1;", 2, 15);
        sound(ahead, ONE + "v0 0 0 0 1;d1 1;", 2);
        String sum = "of I INCHES, 1 .. 999";
        Check.same(sum, sound(sum, ONE + "d0 1;", 1).debt(0, 1), 1);
        Check.same(sum, sound(sum, ONE + "d0 999;", 1).debt(0, 1), 999);
        faulty(sum, ONE + "d0 0;", 2, 17);
        faulty(sum, ONE + "d0 1000;", 2, 17);
        faulty("'d' V I ';': one less", ONE + "d0;", 1, 16);
        faulty("'d' V I ';': one more", ONE + "d0 1 1;", 1, 19);
        faulty("'d' V I ';': none", ONE + "d;", 1, 15);
    }

    private static void numbersFromNought() {
        String sentence = "What has a number has it from 0 on, as it comes";
        SnowDays x = sound(sentence, "n1;v5 0 0 0 1;d0 11;p0 21;v6 0 0 0 1;p1 22;d0 12;v7 0 0 0 1;p0 23;d2 13;", 3);
        for (int k = 0; k < 3; k++) {
            Check.same(sentence + ": a VILLAGE", x.village(k, 0), 5 + k);
            Check.same(sentence + ": a PERSON", x.person(k, 1), 21 + k);
            Check.same(sentence + ": a DEBT", x.debt(k, 1), 11 + k);
        }
        Check.same(sentence + ": where a PERSON is", x.person(1, 0), 1);
        Check.same(sentence + ": where a DEBT is", x.debt(2, 0), 2);
    }

    private static void figures() {
        String sentence = "NUMBERS have one to three figures";
        Check.same(sentence, sound(sentence, "n7;", 0).winter(0), 7);
        Check.same(sentence, sound(sentence, "n07;", 0).winter(0), 7);
        Check.same(sentence, sound(sentence, "n007;", 0).winter(0), 7);
        faulty("a NUMBER of four figures or more", "n0007;", 2, 1);
        faulty("a NUMBER of four figures or more", "n00007;", 2, 1);
        faulty("a NUMBER of four figures or more", "n" + "0".repeat(239), 2, 1);
        faulty("a NUMBER of four figures or more", "n4294967296;", 2, 1);
        faulty("a NUMBER of four figures or more", "n18446744073709551616;", 2, 1);
        faulty("a NUMBER of four figures or more", ONE + "p0000 1;", 2, 15);
        faulty("a NUMBER of four figures or more", ONE + "p0 0001;", 2, 17);
        faulty("a NUMBER of four figures or more", ONE + "d0 0001;", 2, 17);
        faulty("a NUMBER of four figures or more", "n1;v0 0 0 0 0001;", 2, 12);
        faulty("a NUMBER of four figures or more", "n 0001", 2, 2);
    }

    private static void blanks() {
        String sentence = "blanks (32) may stand anywhere but within NUMBERS";
        SnowDays x = sound(sentence, "  n  3  ,  4  ;  v  1  2  3  4  5  ;  p  0  6  ;  d  0  7  ;  ", 1);
        Check.same(sentence, x.winter(1), 4);
        Check.same(sentence, x.village(0, 6), 4);
        Check.same(sentence, x.person(0, 1), 6);
        Check.same(sentence, x.debt(0, 1), 7);
        sound(sentence + ", and none need", "n3,4;v1 2 3 4 5;p0 6;d0 7;", 1);
        faulty(sentence, "n3 4;", 1, 3);
        faulty(sentence, ONE + "p0 6 6;", 1, 19);
        faulty(sentence, ONE + "d0 7 7;", 1, 19);
        faulty("a tabulator is no blank", "n\t3;", 1, 1);
        faulty("a new line is no blank", "n3;\n", 1, 3);
        faulty("160 is no blank", "n3;" + (char) 160, 1, 3);
    }

    private static void sideBySide() {
        String sentence = "two NUMBERS side by side need one";
        faulty(sentence, "n1;v0 0 0 01;", 1, 12);
        faulty(sentence, "n1;v00 0 0 1;", 1, 12);
        faulty(sentence, ONE + "p00;", 1, 17);
        faulty(sentence, ONE + "d00;", 1, 17);
        faulty(sentence + ": 01 is one VILLAGE, and there is none", ONE + "p01;", 2, 15);
        faulty(sentence, ONE + "p0,1;", 1, 16);
        sound("a ',' stands between NUMBERS of THE WINTER", "n1,2,3;", 0);
    }

    /** No figure of this text but makes a number that may stand there, so each end within a clause is the first fault. */
    private static void everyEnd() {
        String text = " n12 , 3; v1 2 3 4 15 ;p 0 123;d0 456 ;  ";
        int soundFrom = 0;
        for (int length = 0; length <= text.length(); length++) {
            String part = text.substring(0, length);
            boolean isWhole = part.isBlank() || part.stripTrailing().endsWith(";");
            if (isWhole) {
                soundFrom++;
                sound("the end", part, part.contains("15 ;") ? 1 : 0);
            } else {
                faulty("the end at the text's length", part, 1, length);
            }
        }
        Check.same("ends that are none too early", soundFrom, 2 + 2 + 1 + 1 + 3);
    }

    private static void everyLetter() {
        for (int letter = 0; letter <= 255; letter++) {
            char c = (char) letter;
            boolean isFigure = c >= '0' && c <= '9';
            boolean isBlank = c == ' ';
            letterAt("another word first than 'n'", "", c, isBlank, c == 'n');
            letterAt("a number behind 'n'", "n", c, false, isFigure || isBlank);
            letterAt("',' or ';' behind I", "n1", c, c == ';', isFigure || isBlank || c == ',');
            letterAt("a number behind ','", "n1,", c, false, isFigure || isBlank);
            letterAt("a number or a blank in 'v'", "n1;v1", c, false, isFigure || isBlank);
            letterAt("';' behind Y", "n1;v0 0 0 0 1", c, c == ';', isFigure || isBlank);
            letterAt("';' behind F", ONE + "p0 1", c, c == ';', isFigure || isBlank);
            letterAt("';' behind I", ONE + "d0 1", c, c == ';', isFigure || isBlank);
            if (c != 'n') {
                letterAt("a letter that is no word", "n1;", c, isBlank, c == 'v' || c == 'p' || c == 'd');
            }
        }
    }

    private static void letterAt(String sentence, String ahead, char c, boolean isWhole, boolean mayStand) {
        if (isWhole) {
            sound(sentence, ahead + c, ahead.contains("v") ? 1 : 0);
        } else {
            faulty(sentence, ahead + c, 1, ahead.length() + (mayStand ? 1 : 0));
        }
    }

    private static void firstLetterWithAFault() {
        String sentence = "FAULTS, at the first letter that has one";
        faulty(sentence, "n41x", 2, 1);
        faulty(sentence, "n41", 2, 1);
        faulty(sentence, "n1,99,x;", 2, 3);
        faulty(sentence, "n1;n;", 3, 3);
        faulty(sentence, "n1;v0 0 0 0 0 x", 2, 12);
        faulty(sentence, "n1;v41 x", 2, 4);
        faulty(sentence, "n1;v41 41 41 41 0;", 2, 4);
        faulty(sentence, "n1;p9 1000;", 2, 4);
        faulty(sentence, ONE + "p0 1000", 2, 17);
        faulty(sentence, ONE + "d0 0;n", 2, 17);
        faulty(sentence, "xn41;", 1, 0);
        faulty(sentence, FOUR + "v41 x", 3, 47);
    }

    private static void leastFaultAtALetter() {
        String sentence = "of these the least";
        faulty(sentence + ": 'n' again, where it cannot stand", "nn", 1, 1);
        faulty(sentence + ": 'n' again, where it cannot stand", "n1n", 1, 2);
        faulty(sentence + ": 'n' again, where it cannot stand", "n1;v0 n", 1, 6);
        faulty(sentence + ": a fifth 'v', where it cannot stand", FOUR + "p0v", 1, 49);
        faulty(sentence + ": a fifth 'v', where it cannot stand", FOUR + "d0 1v", 1, 51);
        faulty(sentence + ": a seventh 'p', where it cannot stand", ONE + "p0 1;".repeat(6) + "d0 p", 1, 47);
        faulty(sentence + ": a sixth 'd', where it cannot stand", ONE + "d0 1;".repeat(5) + "p0d", 1, 41);
        faulty(sentence + ": out of bounds, where no NUMBER can stand", "n1 41;", 1, 3);
        faulty(sentence + ": out of bounds, where no NUMBER can stand", "n1;v0 0 0 0 1 41;", 1, 14);
        faulty(sentence + ": four figures, where no NUMBER can stand", "n1;1234", 1, 3);
        faulty(sentence + ": four figures first", "1234", 1, 0);
        faulty(sentence + ": four figures behind I", ONE + "d0 1 1234;", 1, 19);
    }

    private static void faultsOfTheThirdKind() {
        String persons = ONE + "p0 1;".repeat(6);
        String debts = ONE + "d0 1;".repeat(5);
        faulty("'n' again (at it)", "n1;  n", 3, 5);
        faulty("a fifth 'v' (at it)", FOUR + "  v", 3, 49);
        faulty("a seventh 'p' (at it)", persons + "  p", 3, 46);
        faulty("a seventh 'p' (at it), though its VILLAGE is none", persons + "p9 1;", 3, 44);
        faulty("a sixth 'd' (at it)", debts + "  d", 3, 41);
        faulty("a sixth 'd' (at it), though its VILLAGE is none", debts + "d9 1;", 3, 39);
        sound("six 'p', five 'd'", persons + "d0 1;".repeat(5), 1);
        faulty("a seventh 'p' behind five 'd'", persons + "d0 1;".repeat(5) + "p", 3, 69);
        faulty("a sixth 'd' behind six 'p'", debts + "p0 1;".repeat(6) + "d", 3, 69);
    }

    private static void emptyText() {
        String sentence = "An empty text: no VALLEY";
        SnowDays x = sound(sentence, "", 0);
        Check.same(sentence, x.winter(0), Check.NOT);
        Check.same(sentence, x.night(1), Check.NOT);
        Check.same(sentence, x.drift(1), Check.NOT);
        SnowDays was = Check.of(Check.SLOPE);
        Check.same(sentence + ": ahead of it there was one", was.winter(1), 5);
        Check.same(sentence, was.valley(), 0);
        Check.same(sentence, was.winter(1), Check.NOT);
        Check.same(sentence, was.village(0, 0), Check.UNKNOWN);
        Check.same(sentence, was.person(0, 0), Check.UNKNOWN);
        Check.same(sentence, was.debt(0, 0), Check.UNKNOWN);
        Check.same(sentence + ": a valley without villages is one", sound(sentence, "n1;", 0).winter(0), 1);
    }
}
