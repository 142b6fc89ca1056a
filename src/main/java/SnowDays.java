import java.util.Arrays;

/** Days by the snow: a valley whose calendar is the snow that fell. ../shared/DOC.md says what each call answers. */
public final class SnowDays {
    public static final int NONE = -1, UNKNOWN = -1000000001, OUTSIDE = -1000000002, NOT = -1000000003, FULL = -1000000004;

    private static final int MOST_LETTERS = 240;
    private static final int MOST_NUMBERS = 20;
    private static final int MOST_VILLAGES = 4;
    private static final int MOST_PERSONS = 6;
    private static final int MOST_DEBTS = 5;
    private static final int MOST_INCHES = 40;
    private static final int MOST_TOLD = 999;
    private static final int MOST_TRIED = 200;
    private static final int MOST_CHANCE_NIGHTS = 30;
    private static final int MOST_NIGHTS_A_CALL = 60;
    private static final int LAST_NIGHT = 9000;
    private static final int MOST_FELL = 999999;
    private static final int MOST_WRITTEN = 9999;
    private static final int MOST_SAWED_A_CALL = 99;
    private static final int OLDER_BASE = 1000;
    private static final int MILLION = 1000000;

    private final int[] text = new int[MOST_LETTERS];
    private int textLength = 0;
    private final Reader reader = new Reader(text);
    private final Tale tale = new Tale();
    private final Standing now = new Standing();
    private final Past past = new Past();
    private final Images images = new Images();
    private final Dice dice = new Dice();
    private final Trial trial = new Trial(tale, now);
    private final Sayings sayings = new Sayings(tale, now);
    private final Book book = new Book(now);

    public SnowDays() {
    }

    // ---- the valley

    public int feed(int letter) {
        if (isOut(letter, 0, 255)) {
            return OUTSIDE;
        }
        if (textLength >= MOST_LETTERS) {
            return FULL;
        }
        text[textLength] = letter;
        textLength++;
        return textLength;
    }

    public int valley() {
        int length = textLength;
        textLength = 0;
        int kind = reader.read(length);
        if (kind != Reader.SOUND) {
            return -10 - kind;
        }
        tale.become(reader.found);
        now.begin(tale);
        past.forget();
        images.forget();
        sayings.forget();
        book.forget();
        return tale.villages;
    }

    public int fault() {
        return reader.faultAt;
    }

    public int told(int what) {
        switch (what) {
            case 0: return tale.numbers;
            case 1: return tale.villages;
            case 2: return tale.persons;
            case 3: return tale.debts;
            case 4: return textLength;
            case 5: return now.nights();
            case 6: return now.dueDebts(tale);
            case 7: return tale.greenNights();
            case 8: return sayings.count;
            case 9: return book.count;
            case 10: return past.count;
            default: return OUTSIDE;
        }
    }

    public int winter(int k) {
        if (isOut(k, 0, MOST_WRITTEN)) {
            return OUTSIDE;
        }
        return tale.isThere() ? tale.inchesOf(k) : NOT;
    }

    public int village(int v, int what) {
        if (!tale.hasVillage(v)) {
            return UNKNOWN;
        }
        switch (what) {
            case 0: return tale.dry[v];
            case 1: return tale.year[v];
            case 2: return now.falls(v);
            case 3: return now.pole(v);
            case 4: return Math.min(now.fell(v), MOST_FELL);
            case 5: return now.sawedOff(v);
            case 6: return tale.fallFrom[v];
            default: return OUTSIDE;
        }
    }

    public int person(int p, int what) {
        if (!tale.hasPerson(p)) {
            return UNKNOWN;
        }
        switch (what) {
            case 0: return now.home(p);
            case 1: return now.lived(p);
            case 2: return now.age(tale, p);
            default: return OUTSIDE;
        }
    }

    public int debt(int d, int what) {
        if (!tale.hasDebt(d)) {
            return UNKNOWN;
        }
        switch (what) {
            case 0: return tale.debtPlace[d];
            case 1: return now.owed(d);
            case 2: return now.fellSinceMade(tale, d);
            case 3: return now.isDue(tale, d) ? 1 : 0;
            default: return OUTSIDE;
        }
    }

    // ---- what is done

    public int night(int n) {
        int refusal = refusedNights(n);
        if (refusal != 0) {
            return refusal;
        }
        past.add(now);
        for (int k = 0; k < n; k++) {
            now.snow(tale, tale.inchesOf(now.nights()));
        }
        return now.nights();
    }

    public int move(int p, int v) {
        if (!tale.hasPerson(p) || !tale.hasVillage(v)) {
            return UNKNOWN;
        }
        past.add(now);
        now.settle(p, v);
        return now.age(tale, p);
    }

    public int saw(int v, int k) {
        if (!tale.hasVillage(v)) {
            return UNKNOWN;
        }
        if (isOut(k, 1, MOST_SAWED_A_CALL)) {
            return OUTSIDE;
        }
        past.add(now);
        now.cutPole(v, k);
        return now.pole(v);
    }

    public int pay(int d) {
        if (!tale.hasDebt(d)) {
            return UNKNOWN;
        }
        if (!now.isDue(tale, d)) {
            return NOT;
        }
        past.add(now);
        int fallen = now.fellSinceMade(tale, d);
        now.clearDebt(d);
        return fallen;
    }

    public int lend(int d, int inches) {
        if (!tale.hasDebt(d)) {
            return UNKNOWN;
        }
        if (isOut(inches, 1, MOST_TOLD)) {
            return OUTSIDE;
        }
        if (now.owed(d) != 0) {
            return NOT;
        }
        past.add(now);
        now.makeDebt(tale, d, inches);
        return now.openDebts(tale);
    }

    public int drift(int n) {
        int refusal = refusedNights(n);
        if (refusal != 0) {
            return refusal;
        }
        past.add(now);
        for (int k = 0; k < n; k++) {
            driftOneNight();
        }
        return now.nights();
    }

    public int undo() {
        if (past.count == 0) {
            return NOT;
        }
        past.takeLatest(now);
        return past.count;
    }

    // ---- tried

    public int due(int d) {
        if (!tale.hasDebt(d)) {
            return UNKNOWN;
        }
        return now.owed(d) == 0 ? NOT : trial.nightsTillDue(d);
    }

    public int old(int p, int n) {
        if (!tale.hasPerson(p)) {
            return UNKNOWN;
        }
        return isOut(n, 0, MOST_TRIED) ? OUTSIDE : trial.ageBehind(p, n, 0);
    }

    public int feast(int v, int u) {
        if (!tale.hasVillage(v) || !tale.hasVillage(u) || v == u) {
            return UNKNOWN;
        }
        return trial.nightsTillFeast(v, u);
    }

    public int mild(int p, int m, int n) {
        if (!tale.hasPerson(p)) {
            return UNKNOWN;
        }
        if (isOut(m, 0, MOST_INCHES) || isOut(n, 0, MOST_TRIED)) {
            return OUTSIDE;
        }
        return trial.ageBehind(p, n, 0) - trial.ageBehind(p, n, m);
    }

    public int mildDebts(int m, int n) {
        if (isOut(m, 0, MOST_INCHES) || isOut(n, 0, MOST_TRIED)) {
            return OUTSIDE;
        }
        return trial.debtsDueBehind(n, 0) & ~trial.debtsDueBehind(n, m);
    }

    public int older(int p, int v) {
        if (!tale.hasPerson(p) || !tale.hasVillage(v)) {
            return UNKNOWN;
        }
        return tale.years(now.lived(p), v) - now.age(tale, p) + OLDER_BASE;
    }

    public int chance(int d, int n) {
        if (!tale.hasDebt(d)) {
            return UNKNOWN;
        }
        if (isOut(n, 0, MOST_CHANCE_NIGHTS)) {
            return OUTSIDE;
        }
        return now.owed(d) == 0 ? NOT : trial.chanceOfDue(d, n);
    }

    public int poles() {
        return trial.fewestPoles();
    }

    public int longest(int v) {
        return tale.hasVillage(v) ? trial.longestWithoutFall(v) : UNKNOWN;
    }

    // ---- what is told

    public int say(int p, int age) {
        if (!tale.hasPerson(p)) {
            return UNKNOWN;
        }
        if (isOut(age, 0, MOST_WRITTEN)) {
            return OUTSIDE;
        }
        return sayings.add(p, age) ? sayings.count : FULL;
    }

    public int sawn(int i) {
        return i == NONE ? sayings.countFitting() : sayings.fitting(i);
    }

    public int ask() {
        return sayings.bestToAsk();
    }

    public int write(int v, int pole) {
        if (!tale.hasVillage(v)) {
            return UNKNOWN;
        }
        if (isOut(pole, 0, MOST_WRITTEN)) {
            return OUTSIDE;
        }
        return book.add(v, pole) ? book.count : FULL;
    }

    public int tear() {
        int had = sayings.count + book.count;
        sayings.forget();
        book.forget();
        return had;
    }

    public int judge() {
        return book.firstWrong();
    }

    // ---- draws, images

    public int seed(int v) {
        if (v < 0) {
            return OUTSIDE;
        }
        int was = dice.state;
        dice.state = v;
        return was;
    }

    public int keep(int i) {
        if (!images.has(i)) {
            return UNKNOWN;
        }
        images.store(i, now, dice.state);
        past.forget();
        return 1;
    }

    public int goBack(int i) {
        if (!images.has(i)) {
            return UNKNOWN;
        }
        if (!images.kept[i]) {
            return NOT;
        }
        images.bringBack(i, now);
        dice.state = images.seeds[i];
        past.forget();
        return 1;
    }

    // ---- what several calls share

    private static boolean isOut(int number, int least, int most) {
        return number < least || number > most;
    }

    /** The refusal of n nights that should come now, 0 if they may. */
    private int refusedNights(int n) {
        if (isOut(n, 1, MOST_NIGHTS_A_CALL)) {
            return OUTSIDE;
        }
        if (!tale.isThere()) {
            return NOT;
        }
        return now.nights() > LAST_NIGHT ? FULL : 0;
    }

    private void driftOneNight() {
        now.snow(tale, dice.draw(MOST_INCHES + 1));
        if (tale.villages > 0 && dice.draw(4) == 0) {
            now.cutPole(dice.draw(tale.villages), 1);
        }
    }

    /** What the text told. Only valley() changes it, so no past and no image holds it. */
    private static final class Tale {
        final int[] inches = new int[MOST_NUMBERS];
        final int[] dry = new int[MOST_VILLAGES];
        final int[] fallFrom = new int[MOST_VILLAGES];
        final int[] year = new int[MOST_VILLAGES];
        final int[] firstHome = new int[MOST_PERSONS];
        final int[] born = new int[MOST_PERSONS];
        final int[] debtPlace = new int[MOST_DEBTS];
        final int[] debtInches = new int[MOST_DEBTS];
        int numbers = 0;
        int villages = 0;
        int persons = 0;
        int debts = 0;

        void clear() {
            numbers = 0;
            villages = 0;
            persons = 0;
            debts = 0;
        }

        void become(Tale other) {
            System.arraycopy(other.inches, 0, inches, 0, MOST_NUMBERS);
            System.arraycopy(other.dry, 0, dry, 0, MOST_VILLAGES);
            System.arraycopy(other.fallFrom, 0, fallFrom, 0, MOST_VILLAGES);
            System.arraycopy(other.year, 0, year, 0, MOST_VILLAGES);
            System.arraycopy(other.firstHome, 0, firstHome, 0, MOST_PERSONS);
            System.arraycopy(other.born, 0, born, 0, MOST_PERSONS);
            System.arraycopy(other.debtPlace, 0, debtPlace, 0, MOST_DEBTS);
            System.arraycopy(other.debtInches, 0, debtInches, 0, MOST_DEBTS);
            numbers = other.numbers;
            villages = other.villages;
            persons = other.persons;
            debts = other.debts;
        }

        /** A valley has a winter, even if nobody lives there. */
        boolean isThere() {
            return numbers > 0;
        }

        boolean hasVillage(int v) {
            return v >= 0 && v < villages;
        }

        boolean hasPerson(int p) {
            return p >= 0 && p < persons;
        }

        boolean hasDebt(int d) {
            return d >= 0 && d < debts;
        }

        int inchesOf(int k) {
            return numbers > 0 && k >= 0 ? inches[k % numbers] : 0;
        }

        int depth(int v, int fallen) {
            return Math.max(0, fallen - dry[v]);
        }

        boolean isFall(int v, int fallen) {
            return fallen >= fallFrom[v];
        }

        int years(int falls, int v) {
            return year[v] > 0 ? falls / year[v] : 0;
        }

        /** Which fall of its year a pole tells. */
        int fallOfYear(int falls, int v) {
            return year[v] > 0 ? falls % year[v] : 0;
        }

        int greenNights() {
            int set = 0;
            for (int k = 0; k < numbers; k++) {
                if (!isFallAnywhere(inches[k])) {
                    set |= 1 << k;
                }
            }
            return set;
        }

        private boolean isFallAnywhere(int fallen) {
            for (int v = 0; v < villages; v++) {
                if (isFall(v, fallen)) {
                    return true;
                }
            }
            return false;
        }

        void addVillage(int dryness, int leastDepth, int falls) {
            if (villages < MOST_VILLAGES) {
                dry[villages] = dryness;
                fallFrom[villages] = dryness + leastDepth;
                year[villages] = falls;
                villages++;
            }
        }

        void addPerson(int v, int falls) {
            if (persons < MOST_PERSONS) {
                firstHome[persons] = v;
                born[persons] = falls;
                persons++;
            }
        }

        void addDebt(int v, int sum) {
            if (debts < MOST_DEBTS) {
                debtPlace[debts] = v;
                debtInches[debts] = sum;
                debts++;
            }
        }
    }

    /** Reads a text into a tale of its own, so that a fault leaves the valley as it was. */
    private static final class Reader {
        static final int SOUND = 0;
        static final int MISPLACED = 1;
        static final int BAD_NUMBER = 2;
        static final int TOO_MANY = 3;
        private static final int MOST_FIGURES = 3;

        final Tale found = new Tale();
        int faultAt = NONE;
        private final int[] letters;
        private int kind = SOUND;
        private int length = 0;
        private int at = 0;

        Reader(int[] text) {
            letters = text;
        }

        /** The number of the first fault, SOUND if there is none. Blanks may stand anywhere: a text of them alone is a tale of nothing, too. */
        int read(int count) {
            length = Math.max(0, Math.min(count, letters.length));
            at = 0;
            kind = SOUND;
            faultAt = NONE;
            found.clear();
            if (nextWord() != NONE) {
                readClauses();
            }
            return kind;
        }

        private void readClauses() {
            if (nextWord() != 'n') {
                fail(MISPLACED, at);
                return;
            }
            readWinter();
            for (int k = 0; k < MOST_LETTERS && kind == SOUND; k++) {
                int word = nextWord();
                if (word == NONE) {
                    return;
                }
                readClause(word);
            }
        }

        private void readClause(int word) {
            switch (word) {
                case 'n':
                    fail(TOO_MANY, at);
                    break;
                case 'v':
                    readVillage();
                    break;
                case 'p':
                    readPerson();
                    break;
                case 'd':
                    readDebt();
                    break;
                default:
                    fail(MISPLACED, at);
                    break;
            }
        }

        private void readWinter() {
            at++;
            for (int k = 0; k < MOST_NUMBERS; k++) {
                int fallen = readNumber(0, MOST_INCHES);
                if (kind != SOUND) {
                    return;
                }
                found.inches[k] = fallen;
                found.numbers = k + 1;
                // the comma behind the last number that may stand is the fault of the one behind it
                if (nextWord() != ',' || k == MOST_NUMBERS - 1) {
                    break;
                }
                at++;
            }
            readEnd();
        }

        private void readVillage() {
            if (found.villages >= MOST_VILLAGES) {
                fail(TOO_MANY, at);
                return;
            }
            at++;
            int dryness = readNumber(0, MOST_INCHES);
            int a = readNumber(0, MOST_INCHES);
            int b = readNumber(0, MOST_INCHES);
            int c = readNumber(0, MOST_INCHES);
            int falls = readNumber(1, MOST_INCHES);
            readEnd();
            if (kind == SOUND) {
                found.addVillage(dryness, Math.max(1, middle(a, b, c)), falls);
            }
        }

        private void readPerson() {
            if (found.persons >= MOST_PERSONS) {
                fail(TOO_MANY, at);
                return;
            }
            at++;
            int v = readNumber(0, found.villages - 1);
            int falls = readNumber(0, MOST_TOLD);
            readEnd();
            if (kind == SOUND) {
                found.addPerson(v, falls);
            }
        }

        private void readDebt() {
            if (found.debts >= MOST_DEBTS) {
                fail(TOO_MANY, at);
                return;
            }
            at++;
            int v = readNumber(0, found.villages - 1);
            int sum = readNumber(1, MOST_TOLD);
            readEnd();
            if (kind == SOUND) {
                found.addDebt(v, sum);
            }
        }

        /** Two of three planks are no more than the middle one. */
        private static int middle(int a, int b, int c) {
            return Math.max(Math.min(a, b), Math.min(Math.max(a, b), c));
        }

        private int readNumber(int least, int most) {
            if (kind != SOUND) {
                return 0;
            }
            nextWord();
            int first = at;
            int value = 0;
            for (int k = 0; k < MOST_LETTERS && isFigure(at); k++) {
                // figures beyond the third make a fault anyway, so they need no place in the value
                if (k < MOST_FIGURES) {
                    value = value * 10 + letters[at] - '0';
                }
                at++;
            }
            if (at == first) {
                fail(MISPLACED, at);
            } else if (at - first > MOST_FIGURES || isOut(value, least, most)) {
                fail(BAD_NUMBER, first);
            }
            return value;
        }

        private void readEnd() {
            if (kind != SOUND) {
                return;
            }
            if (nextWord() == ';') {
                at++;
            } else {
                fail(MISPLACED, at);
            }
        }

        /** The letter behind all blanks, NONE at the end; it is not taken. */
        private int nextWord() {
            for (int k = 0; k < MOST_LETTERS && at < length && letters[at] == ' '; k++) {
                at++;
            }
            return at < length ? letters[at] : NONE;
        }

        private boolean isFigure(int place) {
            return place < length && letters[place] >= '0' && letters[place] <= '9';
        }

        private void fail(int number, int place) {
            if (kind == SOUND) {
                kind = number;
                faultAt = place;
            }
        }
    }

    /** All of section 2, in one row: a past or an image of it is one copy. */
    private static final class Standing {
        static final int FALLS = 1;
        static final int FELL = FALLS + MOST_VILLAGES;
        static final int SAWED = FELL + MOST_VILLAGES;
        static final int HOME = SAWED + MOST_VILLAGES;
        static final int LIVED = HOME + MOST_PERSONS;
        static final int OWED = LIVED + MOST_PERSONS;
        static final int MADE = OWED + MOST_DEBTS;
        static final int SIZE = MADE + MOST_DEBTS;

        final int[] row = new int[SIZE];

        void begin(Tale tale) {
            Arrays.fill(row, 0);
            for (int p = 0; p < tale.persons; p++) {
                row[HOME + p] = tale.firstHome[p];
                row[LIVED + p] = tale.born[p];
            }
            for (int d = 0; d < tale.debts; d++) {
                row[OWED + d] = tale.debtInches[d];
            }
        }

        int nights() {
            return row[0];
        }

        int falls(int v) {
            return row[FALLS + v];
        }

        int fell(int v) {
            return row[FELL + v];
        }

        int sawedOff(int v) {
            return row[SAWED + v];
        }

        int pole(int v) {
            return Math.max(0, row[FALLS + v] - row[SAWED + v]);
        }

        /** What a pole tells, if so many falls are counted there. */
        int poleOf(int v, int falls) {
            return Math.max(0, falls - row[SAWED + v]);
        }

        int home(int p) {
            return row[HOME + p];
        }

        int lived(int p) {
            return row[LIVED + p];
        }

        int age(Tale tale, int p) {
            return tale.years(lived(p), home(p));
        }

        /** 0: it is paid. */
        int owed(int d) {
            return row[OWED + d];
        }

        int fellSinceMade(Tale tale, int d) {
            return owed(d) == 0 ? 0 : fell(tale.debtPlace[d]) - row[MADE + d];
        }

        /** What a debt lacks until it is due, 0 at least. */
        int lack(Tale tale, int d) {
            return Math.max(0, owed(d) - fellSinceMade(tale, d));
        }

        boolean isDue(Tale tale, int d) {
            return owed(d) != 0 && lack(tale, d) == 0;
        }

        int dueDebts(Tale tale) {
            int set = 0;
            for (int d = 0; d < tale.debts; d++) {
                if (isDue(tale, d)) {
                    set |= 1 << d;
                }
            }
            return set;
        }

        int openDebts(Tale tale) {
            int set = 0;
            for (int d = 0; d < tale.debts; d++) {
                if (owed(d) != 0) {
                    set |= 1 << d;
                }
            }
            return set;
        }

        void snow(Tale tale, int fallen) {
            for (int v = 0; v < tale.villages; v++) {
                row[FELL + v] += tale.depth(v, fallen);
                if (tale.isFall(v, fallen)) {
                    row[FALLS + v]++;
                    ageAllIn(tale, v);
                }
            }
            row[0]++;
        }

        private void ageAllIn(Tale tale, int v) {
            for (int p = 0; p < tale.persons; p++) {
                if (home(p) == v) {
                    row[LIVED + p]++;
                }
            }
        }

        void settle(int p, int v) {
            row[HOME + p] = v;
        }

        void cutPole(int v, int k) {
            row[SAWED + v] += k;
        }

        void clearDebt(int d) {
            row[OWED + d] = 0;
        }

        void makeDebt(Tale tale, int d, int sum) {
            row[OWED + d] = sum;
            row[MADE + d] = fell(tale.debtPlace[d]);
        }
    }

    /** What can be undone: a ring, so that the oldest is lost by being written over. */
    private static final class Past {
        private static final int MOST = 20;

        int count = 0;
        private final int[] rows = new int[MOST * Standing.SIZE];
        private int next = 0;

        void forget() {
            count = 0;
            next = 0;
        }

        void add(Standing standing) {
            System.arraycopy(standing.row, 0, rows, next * Standing.SIZE, Standing.SIZE);
            next = (next + 1) % MOST;
            count = Math.min(MOST, count + 1);
        }

        void takeLatest(Standing standing) {
            if (count > 0) {
                next = (next + MOST - 1) % MOST;
                count--;
                System.arraycopy(rows, next * Standing.SIZE, standing.row, 0, Standing.SIZE);
            }
        }
    }

    private static final class Images {
        private static final int MOST = 2;

        final boolean[] kept = new boolean[MOST];
        final int[] seeds = new int[MOST];
        private final int[] rows = new int[MOST * Standing.SIZE];

        boolean has(int i) {
            return i >= 0 && i < MOST;
        }

        void forget() {
            for (int i = 0; i < MOST; i++) {
                kept[i] = false;
            }
        }

        void store(int i, Standing standing, int state) {
            System.arraycopy(standing.row, 0, rows, i * Standing.SIZE, Standing.SIZE);
            seeds[i] = state;
            kept[i] = true;
        }

        void bringBack(int i, Standing standing) {
            System.arraycopy(rows, i * Standing.SIZE, standing.row, 0, Standing.SIZE);
        }
    }

    private static final class Dice {
        int state = 0;

        int draw(int n) {
            state = (state * 1103515245 + 12345) & 2147483647;
            return n > 0 ? state / 65536 % n : 0;
        }
    }

    /** What would be by the winter from now on; it looks at the valley and changes nothing of it. */
    private static final class Trial {
        private static final int POLE_NIGHTS = 40;
        private static final int LONGEST_NIGHTS = 100;

        private final Tale tale;
        private final Standing now;
        private final int[] lying = new int[MOST_TOLD + 1];
        private final long[] fallNights = new long[MOST_VILLAGES];

        Trial(Tale tale, Standing now) {
            this.tale = tale;
            this.now = now;
        }

        /** Inches of the night that comes behind so many others, in a winter milder by so much. */
        private int inchesBehind(int nights, int milder) {
            return Math.max(0, tale.inchesOf(now.nights() + nights) - milder);
        }

        private boolean isFallBehind(int v, int nights) {
            return tale.isFall(v, inchesBehind(nights, 0));
        }

        int nightsTillDue(int d) {
            int v = tale.debtPlace[d];
            int lack = now.lack(tale, d);
            for (int n = 0; n <= MOST_TRIED; n++) {
                if (lack <= 0) {
                    return n;
                }
                lack -= tale.depth(v, inchesBehind(n, 0));
            }
            return NONE;
        }

        int ageBehind(int p, int nights, int milder) {
            int v = now.home(p);
            int falls = now.lived(p);
            for (int n = 0; n < nights; n++) {
                if (tale.isFall(v, inchesBehind(n, milder))) {
                    falls++;
                }
            }
            return tale.years(falls, v);
        }

        int debtsDueBehind(int nights, int milder) {
            int set = 0;
            for (int d = 0; d < tale.debts; d++) {
                if (now.owed(d) != 0 && isDueBehind(d, nights, milder)) {
                    set |= 1 << d;
                }
            }
            return set;
        }

        private boolean isDueBehind(int d, int nights, int milder) {
            int v = tale.debtPlace[d];
            int lack = now.lack(tale, d);
            for (int n = 0; n < nights; n++) {
                lack -= tale.depth(v, inchesBehind(n, milder));
            }
            return lack <= 0;
        }

        int nightsTillFeast(int v, int u) {
            int fallsOfV = now.falls(v);
            int fallsOfU = now.falls(u);
            for (int n = 0; n <= MOST_TRIED; n++) {
                if (tale.fallOfYear(now.poleOf(v, fallsOfV), v) == tale.fallOfYear(now.poleOf(u, fallsOfU), u)) {
                    return n;
                }
                fallsOfV += isFallBehind(v, n) ? 1 : 0;
                fallsOfU += isFallBehind(u, n) ? 1 : 0;
            }
            return NONE;
        }

        int chanceOfDue(int d, int nights) {
            Arrays.fill(lying, 0);
            int lack = now.lack(tale, d);
            if (lack >= lying.length) {
                return 0;
            }
            lying[lack] = MILLION;
            for (int n = 0; n < nights; n++) {
                partOneNight(tale.debtPlace[d], lack);
            }
            return lying[0];
        }

        /** Nothing moves to a greater lack, so rising through the row parts each place once, without a second row. */
        private void partOneNight(int v, int greatest) {
            for (int lack = 1; lack <= greatest && lack < lying.length; lack++) {
                int share = tale.numbers > 0 ? lying[lack] / tale.numbers : 0;
                lying[lack] = 0;
                for (int k = 0; k < tale.numbers && share > 0; k++) {
                    lying[Math.max(0, lack - tale.depth(v, tale.inches[k]))] += share;
                }
            }
        }

        int fewestPoles() {
            int poles = 0;
            for (int v = 0; v < tale.villages; v++) {
                fallNights[v] = nextFallNights(v);
                if (!isLikeOneBefore(v)) {
                    poles++;
                }
            }
            return poles;
        }

        private long nextFallNights(int v) {
            long set = 0;
            for (int n = 0; n < POLE_NIGHTS; n++) {
                if (isFallBehind(v, n)) {
                    set |= 1L << n;
                }
            }
            return set;
        }

        private boolean isLikeOneBefore(int v) {
            for (int u = 0; u < v; u++) {
                if (fallNights[u] == fallNights[v]) {
                    return true;
                }
            }
            return false;
        }

        int longestWithoutFall(int v) {
            int most = 0;
            int onEnd = 0;
            for (int n = 0; n < LONGEST_NIGHTS; n++) {
                onEnd = isFallBehind(v, n) ? 0 : onEnd + 1;
                most = Math.max(most, onEnd);
            }
            return most;
        }
    }

    /** Ages that were told, and who sawed by them. A pair of a village and k is the number 10 times the village and k. */
    private static final class Sayings {
        private static final int MOST = 6;
        private static final int CUTS = 10;

        int count = 0;
        private final Tale tale;
        private final Standing now;
        private final int[] speakers = new int[MOST];
        private final int[] ages = new int[MOST];
        private final int[] fits = new int[MOST_VILLAGES * CUTS];
        private final int[] answers = new int[MOST_VILLAGES * CUTS];

        Sayings(Tale tale, Standing now) {
            this.tale = tale;
            this.now = now;
        }

        void forget() {
            count = 0;
        }

        boolean add(int p, int age) {
            if (count >= MOST) {
                return false;
            }
            speakers[count] = p;
            ages[count] = age;
            count++;
            return true;
        }

        int countFitting() {
            int fitting = 0;
            for (int pair = 0; pair < tale.villages * CUTS; pair++) {
                if (fitsAll(pair)) {
                    fits[fitting] = pair;
                    fitting++;
                }
            }
            return fitting;
        }

        int fitting(int i) {
            int fitting = countFitting();
            return i >= 0 && i < fitting ? fits[i] : NONE;
        }

        private boolean fitsAll(int pair) {
            for (int k = 0; k < count; k++) {
                if (ageByPole(pair, speakers[k]) != ages[k]) {
                    return false;
                }
            }
            return true;
        }

        /** The age that a person tells, if the pair were what was sawed. */
        private int ageByPole(int pair, int p) {
            int v = now.home(p);
            boolean isSawedHere = pair / CUTS == v;
            int pole = isSawedHere ? Math.max(0, now.falls(v) - pair % CUTS) : now.pole(v);
            return tale.years(tale.born[p] + pole, v);
        }

        int bestToAsk() {
            int fitting = countFitting();
            int best = NONE;
            int least = fitting;
            for (int p = 0; p < tale.persons; p++) {
                int greatest = greatestPartAlike(p, fitting);
                if (greatest < least) {
                    least = greatest;
                    best = p;
                }
            }
            return best;
        }

        private int greatestPartAlike(int p, int fitting) {
            for (int i = 0; i < fitting; i++) {
                answers[i] = ageByPole(fits[i], p);
            }
            int greatest = 0;
            for (int i = 0; i < fitting; i++) {
                greatest = Math.max(greatest, countAnswer(answers[i], fitting));
            }
            return greatest;
        }

        private int countAnswer(int answer, int fitting) {
            int alike = 0;
            for (int i = 0; i < fitting; i++) {
                if (answers[i] == answer) {
                    alike++;
                }
            }
            return alike;
        }
    }

    private static final class Book {
        private static final int MOST = 15;

        int count = 0;
        private final Standing now;
        private final int[] places = new int[MOST];
        private final int[] written = new int[MOST];

        Book(Standing now) {
            this.now = now;
        }

        void forget() {
            count = 0;
        }

        boolean add(int v, int pole) {
            if (count >= MOST) {
                return false;
            }
            places[count] = v;
            written[count] = pole;
            count++;
            return true;
        }

        int firstWrong() {
            for (int k = 0; k < count; k++) {
                if (now.pole(places[k]) != written[k]) {
                    return k;
                }
            }
            return NONE;
        }
    }
}
