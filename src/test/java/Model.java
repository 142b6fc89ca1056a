import java.util.ArrayList;
import java.util.HashMap;
import java.util.LinkedHashMap;
import java.util.List;
import java.util.Map;
import java.util.TreeMap;

/**
 * The document once more, built otherwise than the class: it holds no state of section 2 but the list of what happened,
 * and plays it again for every question; it reads a text as a list of tokens.
 */
final class Model {
    private static final int NONE = -1, UNKNOWN = -1000000001, OUTSIDE = -1000000002, NOT = -1000000003, FULL = -1000000004;

    /** What happened: one night, or one deed. */
    private record Event(char kind, int a, int b) {
    }

    private record Village(int d, int a, int b, int c, int y) {
        int fallen(int inches) {
            return inches > d ? inches - d : 0;
        }

        boolean falls(int inches) {
            int x = fallen(inches);
            int under = (a <= x ? 1 : 0) + (b <= x ? 1 : 0) + (c <= x ? 1 : 0);
            return x > 0 && under >= 2;
        }
    }

    private record Pair(int first, int second) {
    }

    private record Image(List<Event> log, long seed) {
    }

    private record Token(int at, int letter, String figures) {
        boolean isNumber() {
            return figures != null;
        }
    }

    private static final class Fault extends RuntimeException {
        private static final long serialVersionUID = 1;
        final int kind;
        final int at;

        Fault(int kind, int at) {
            this.kind = kind;
            this.at = at;
        }
    }

    /** The valley as the log left it. */
    private final class World {
        int nights = 0;
        final int[] falls = new int[villages.size()];
        final int[] fell = new int[villages.size()];
        final int[] sawed = new int[villages.size()];
        final int[] home = new int[persons.size()];
        final int[] lived = new int[persons.size()];
        final int[] sum = new int[debts.size()];
        final int[] since = new int[debts.size()];

        World(List<Event> events) {
            for (int p = 0; p < home.length; p++) {
                home[p] = persons.get(p).first();
                lived[p] = persons.get(p).second();
            }
            for (int d = 0; d < sum.length; d++) {
                sum[d] = debts.get(d).second();
            }
            for (Event event : events) {
                happen(event);
            }
        }

        void happen(Event e) {
            switch (e.kind()) {
                case 'n' -> snow(e.a());
                case 'm' -> home[e.a()] = e.b();
                case 's' -> sawed[e.a()] += e.b();
                case 'p' -> sum[e.a()] = 0;
                case 'l' -> {
                    sum[e.a()] = e.b();
                    since[e.a()] = 0;
                }
                default -> throw new IllegalStateException();
            }
        }

        private void snow(int inches) {
            nights++;
            for (int p = 0; p < home.length; p++) {
                lived[p] += villages.get(home[p]).falls(inches) ? 1 : 0;
            }
            for (int d = 0; d < sum.length; d++) {
                since[d] += villages.get(debts.get(d).first()).fallen(inches);
            }
            for (int v = 0; v < falls.length; v++) {
                falls[v] += villages.get(v).falls(inches) ? 1 : 0;
                fell[v] += villages.get(v).fallen(inches);
            }
        }

        void comingNight(int milder) {
            snow(Math.max(0, numbers.get(nights % numbers.size()) - milder));
        }

        World behind(int n, int milder) {
            for (int k = 0; k < n; k++) {
                comingNight(milder);
            }
            return this;
        }

        int pole(int v) {
            return Math.max(0, falls[v] - sawed[v]);
        }

        int age(int p) {
            return lived[p] / villages.get(home[p]).y();
        }

        boolean isDue(int d) {
            return sum[d] > 0 && since[d] >= sum[d];
        }
    }

    private StringBuilder text = new StringBuilder();
    private int faultAt = NONE;
    private List<Integer> numbers = new ArrayList<>();
    private List<Village> villages = new ArrayList<>();
    private List<Pair> persons = new ArrayList<>();
    private List<Pair> debts = new ArrayList<>();
    private List<Event> log = new ArrayList<>();
    private final List<Integer> marks = new ArrayList<>();
    private final Map<Integer, Image> images = new HashMap<>();
    private final List<Pair> ages = new ArrayList<>();
    private final List<Pair> book = new ArrayList<>();
    private long seed = 0;

    private World now() {
        return new World(log);
    }

    int feed(int letter) {
        if (letter < 0 || letter > 255) {
            return OUTSIDE;
        }
        if (text.length() == 240) {
            return FULL;
        }
        text.append((char) letter);
        return text.length();
    }

    int valley() {
        Model read = new Model();
        String told = text.toString();
        text = new StringBuilder();
        try {
            read.parse(told);
        } catch (Fault fault) {
            faultAt = fault.at;
            return -10 - fault.kind;
        }
        faultAt = NONE;
        numbers = read.numbers;
        villages = read.villages;
        persons = read.persons;
        debts = read.debts;
        log = new ArrayList<>();
        marks.clear();
        images.clear();
        ages.clear();
        book.clear();
        return villages.size();
    }

    private static List<Token> tokens(String told) {
        List<Token> all = new ArrayList<>();
        for (int k = 0; k < told.length(); k++) {
            char letter = told.charAt(k);
            if (letter >= '0' && letter <= '9') {
                int end = k;
                while (end < told.length() && told.charAt(end) >= '0' && told.charAt(end) <= '9') {
                    end++;
                }
                all.add(new Token(k, 0, told.substring(k, end)));
                k = end - 1;
            } else if (letter != ' ') {
                all.add(new Token(k, letter, null));
            }
        }
        all.add(new Token(told.length(), NONE, null));
        return all;
    }

    private void parse(String told) {
        List<Token> all = tokens(told);
        String winter = "n" + "#".repeat(1);
        String clause = "";
        List<Integer> found = new ArrayList<>();
        for (Token token : all) {
            if (clause.isEmpty()) {
                if (token.letter() == NONE) {
                    return;
                }
                clause = begin(token);
                found.clear();
                continue;
            }
            boolean isWinter = clause.startsWith("n");
            char expected = clause.charAt(1);
            if (expected == '#' && token.isNumber()) {
                found.add(value(token, clause.charAt(0), found.size()));
                clause = clause.charAt(0) + clause.substring(2);
            } else if (expected == ';' && isWinter && token.letter() == ',' && found.size() < 20) {
                clause = winter + ";";
            } else if (expected == ';' && token.letter() == ';') {
                end(clause.charAt(0), found);
                clause = "";
            } else {
                throw new Fault(1, token.at());
            }
        }
        throw new IllegalStateException();
    }

    private String begin(Token token) {
        int letter = token.letter();
        if (token.isNumber() || "nvpd".indexOf(letter) < 0 || numbers.isEmpty() && letter != 'n') {
            throw new Fault(1, token.at());
        }
        Map<Character, Integer> had = Map.of('n', numbers.isEmpty() ? 0 : 1, 'v', villages.size(), 'p', persons.size(), 'd', debts.size());
        Map<Character, Integer> most = Map.of('n', 1, 'v', 4, 'p', 6, 'd', 5);
        if (had.get((char) letter).equals(most.get((char) letter))) {
            throw new Fault(3, token.at());
        }
        return Map.of('n', "n#;", 'v', "v#####;", 'p', "p##;", 'd', "d##;").get((char) letter);
    }

    private int value(Token token, char clause, int place) {
        if (token.figures().length() > 3) {
            throw new Fault(2, token.at());
        }
        int value = Integer.parseInt(token.figures());
        int least = clause == 'v' && place == 4 || clause == 'd' && place == 1 ? 1 : 0;
        int most = clause == 'n' || clause == 'v' ? 40 : place == 0 ? villages.size() - 1 : 999;
        if (value < least || value > most) {
            throw new Fault(2, token.at());
        }
        return value;
    }

    private void end(char clause, List<Integer> found) {
        switch (clause) {
            case 'n' -> numbers.addAll(found);
            case 'v' -> villages.add(new Village(found.get(0), found.get(1), found.get(2), found.get(3), found.get(4)));
            case 'p' -> persons.add(new Pair(found.get(0), found.get(1)));
            default -> debts.add(new Pair(found.get(0), found.get(1)));
        }
    }

    int fault() {
        return faultAt;
    }

    int told(int what) {
        World world = now();
        int due = 0;
        for (int d = 0; d < debts.size(); d++) {
            due += world.isDue(d) ? 1 << d : 0;
        }
        int green = 0;
        for (int k = 0; k < numbers.size(); k++) {
            int inches = numbers.get(k);
            green += villages.stream().noneMatch(v -> v.falls(inches)) ? 1 << k : 0;
        }
        int[] all = {numbers.size(), villages.size(), persons.size(), debts.size(), text.length(), world.nights, due, green, ages.size(), book.size(), marks.size()};
        return what < 0 || what >= all.length ? OUTSIDE : all[what];
    }

    int winter(int k) {
        return k < 0 || k > 9999 ? OUTSIDE : numbers.isEmpty() ? NOT : numbers.get(k % numbers.size());
    }

    private boolean noVillage(int v) {
        return v < 0 || v >= villages.size();
    }

    private boolean noPerson(int p) {
        return p < 0 || p >= persons.size();
    }

    private boolean noDebt(int d) {
        return d < 0 || d >= debts.size();
    }

    int village(int v, int what) {
        if (noVillage(v)) {
            return UNKNOWN;
        }
        Village one = villages.get(v);
        World world = now();
        int least = one.d() + 1;
        while (!one.falls(least)) {
            least++;
        }
        int[] all = {one.d(), one.y(), world.falls[v], world.pole(v), Math.min(999999, world.fell[v]), world.sawed[v], least};
        return what < 0 || what >= all.length ? OUTSIDE : all[what];
    }

    int person(int p, int what) {
        if (noPerson(p)) {
            return UNKNOWN;
        }
        World world = now();
        int[] all = {world.home[p], world.lived[p], world.age(p)};
        return what < 0 || what >= all.length ? OUTSIDE : all[what];
    }

    int debt(int d, int what) {
        if (noDebt(d)) {
            return UNKNOWN;
        }
        World world = now();
        int[] all = {debts.get(d).first(), world.sum[d], world.sum[d] == 0 ? 0 : world.since[d], world.isDue(d) ? 1 : 0};
        return what < 0 || what >= all.length ? OUTSIDE : all[what];
    }

    private void mark() {
        marks.add(log.size());
        if (marks.size() > 20) {
            marks.remove(0);
        }
    }

    private int refusal(int n) {
        return n < 1 || n > 60 ? OUTSIDE : numbers.isEmpty() ? NOT : now().nights > 9000 ? FULL : 0;
    }

    int night(int n) {
        if (refusal(n) != 0) {
            return refusal(n);
        }
        mark();
        int nights = now().nights;
        for (int k = 0; k < n; k++) {
            log.add(new Event('n', numbers.get((nights + k) % numbers.size()), 0));
        }
        return nights + n;
    }

    int move(int p, int v) {
        if (noPerson(p) || noVillage(v)) {
            return UNKNOWN;
        }
        mark();
        log.add(new Event('m', p, v));
        return now().age(p);
    }

    int saw(int v, int k) {
        if (noVillage(v)) {
            return UNKNOWN;
        }
        if (k < 1 || k > 99) {
            return OUTSIDE;
        }
        mark();
        log.add(new Event('s', v, k));
        return now().pole(v);
    }

    int pay(int d) {
        if (noDebt(d)) {
            return UNKNOWN;
        }
        World world = now();
        if (!world.isDue(d)) {
            return NOT;
        }
        mark();
        log.add(new Event('p', d, 0));
        return world.since[d];
    }

    int lend(int d, int inches) {
        if (noDebt(d)) {
            return UNKNOWN;
        }
        if (inches < 1 || inches > 999) {
            return OUTSIDE;
        }
        if (now().sum[d] > 0) {
            return NOT;
        }
        mark();
        log.add(new Event('l', d, inches));
        World world = now();
        int set = 0;
        for (int k = 0; k < debts.size(); k++) {
            set += world.sum[k] > 0 ? 1 << k : 0;
        }
        return set;
    }

    private int draw(int n) {
        seed = (seed * 1103515245L + 12345L) % (1L << 31);
        return (int) (seed / 65536 % n);
    }

    int drift(int n) {
        if (refusal(n) != 0) {
            return refusal(n);
        }
        mark();
        for (int k = 0; k < n; k++) {
            log.add(new Event('n', draw(41), 0));
            if (!villages.isEmpty() && draw(4) == 0) {
                log.add(new Event('s', draw(villages.size()), 1));
            }
        }
        return now().nights;
    }

    int undo() {
        if (marks.isEmpty()) {
            return NOT;
        }
        int size = marks.remove(marks.size() - 1);
        log = new ArrayList<>(log.subList(0, size));
        return marks.size();
    }

    int due(int d) {
        if (noDebt(d)) {
            return UNKNOWN;
        }
        World world = now();
        if (world.sum[d] == 0) {
            return NOT;
        }
        for (int n = 0; n <= 200; n++) {
            if (world.isDue(d)) {
                return n;
            }
            world.comingNight(0);
        }
        return NONE;
    }

    int old(int p, int n) {
        return noPerson(p) ? UNKNOWN : n < 0 || n > 200 ? OUTSIDE : now().behind(n, 0).age(p);
    }

    int feast(int v, int u) {
        if (noVillage(v) || noVillage(u) || v == u) {
            return UNKNOWN;
        }
        World world = now();
        for (int n = 0; n <= 200; n++) {
            if (world.pole(v) % villages.get(v).y() == world.pole(u) % villages.get(u).y()) {
                return n;
            }
            world.comingNight(0);
        }
        return NONE;
    }

    int mild(int p, int m, int n) {
        if (noPerson(p)) {
            return UNKNOWN;
        }
        return m < 0 || m > 40 || n < 0 || n > 200 ? OUTSIDE : now().behind(n, 0).age(p) - now().behind(n, m).age(p);
    }

    int mildDebts(int m, int n) {
        if (m < 0 || m > 40 || n < 0 || n > 200) {
            return OUTSIDE;
        }
        if (numbers.isEmpty()) {
            return 0;
        }
        World plain = now().behind(n, 0);
        World milder = now().behind(n, m);
        int set = 0;
        for (int d = 0; d < debts.size(); d++) {
            set += plain.isDue(d) && !milder.isDue(d) ? 1 << d : 0;
        }
        return set;
    }

    int older(int p, int v) {
        if (noPerson(p) || noVillage(v)) {
            return UNKNOWN;
        }
        World world = now();
        return world.lived[p] / villages.get(v).y() - world.age(p) + 1000;
    }

    int chance(int d, int n) {
        if (noDebt(d)) {
            return UNKNOWN;
        }
        if (n < 0 || n > 30) {
            return OUTSIDE;
        }
        World world = now();
        if (world.sum[d] == 0) {
            return NOT;
        }
        Village place = villages.get(debts.get(d).first());
        Map<Integer, Integer> lying = new TreeMap<>(Map.of(Math.max(0, world.sum[d] - world.since[d]), 1000000));
        for (int k = 0; k < n; k++) {
            Map<Integer, Integer> next = new TreeMap<>();
            lying.forEach((lack, much) -> {
                if (lack == 0) {
                    next.merge(0, much, Integer::sum);
                } else {
                    numbers.forEach(i -> next.merge(Math.max(0, lack - place.fallen(i)), much / numbers.size(), Integer::sum));
                }
            });
            lying = next;
        }
        return lying.getOrDefault(0, 0);
    }

    private String fallsOfNext(int v, int n) {
        World world = now();
        StringBuilder marksOf = new StringBuilder();
        for (int k = 0; k < n; k++) {
            int ahead = world.falls[v];
            world.comingNight(0);
            marksOf.append(world.falls[v] > ahead ? '*' : '.');
        }
        return marksOf.toString();
    }

    int poles() {
        Map<String, Integer> shared = new HashMap<>();
        for (int v = 0; v < villages.size(); v++) {
            shared.put(fallsOfNext(v, 40), v);
        }
        return shared.size();
    }

    int longest(int v) {
        if (noVillage(v)) {
            return UNKNOWN;
        }
        int most = 0;
        for (String part : fallsOfNext(v, 100).split("\\*")) {
            most = Math.max(most, part.length());
        }
        return most;
    }

    int say(int p, int age) {
        if (noPerson(p)) {
            return UNKNOWN;
        }
        if (age < 0 || age > 9999) {
            return OUTSIDE;
        }
        if (ages.size() == 6) {
            return FULL;
        }
        ages.add(new Pair(p, age));
        return ages.size();
    }

    private int ageTold(World world, int p) {
        int v = world.home[p];
        return (persons.get(p).second() + world.pole(v)) / villages.get(v).y();
    }

    /** Each pair that fits, with the ages that all persons would tell by it. */
    private Map<Integer, int[]> fitting() {
        Map<Integer, int[]> all = new LinkedHashMap<>();
        World world = now();
        for (int v = 0; v < villages.size(); v++) {
            int is = world.sawed[v];
            for (int k = 0; k <= 9; k++) {
                world.sawed[v] = k;
                int[] answers = new int[persons.size()];
                for (int p = 0; p < answers.length; p++) {
                    answers[p] = ageTold(world, p);
                }
                if (ages.stream().allMatch(told -> answers[told.first()] == told.second())) {
                    all.put(10 * v + k, answers);
                }
            }
            world.sawed[v] = is;
        }
        return all;
    }

    int sawn(int i) {
        List<Integer> all = new ArrayList<>(fitting().keySet());
        return i == NONE ? all.size() : i < 0 || i >= all.size() ? NONE : all.get(i);
    }

    int ask() {
        Map<Integer, int[]> all = fitting();
        int best = NONE;
        int least = all.size();
        for (int p = 0; p < persons.size(); p++) {
            Map<Integer, Integer> parts = new HashMap<>();
            for (int[] answers : all.values()) {
                parts.merge(answers[p], 1, Integer::sum);
            }
            int greatest = parts.values().stream().mapToInt(x -> x).max().orElse(0);
            if (parts.size() > 1 && greatest < least) {
                least = greatest;
                best = p;
            }
        }
        return best;
    }

    int write(int v, int pole) {
        if (noVillage(v)) {
            return UNKNOWN;
        }
        if (pole < 0 || pole > 9999) {
            return OUTSIDE;
        }
        if (book.size() == 15) {
            return FULL;
        }
        book.add(new Pair(v, pole));
        return book.size();
    }

    int tear() {
        int had = ages.size() + book.size();
        ages.clear();
        book.clear();
        return had;
    }

    int judge() {
        World world = now();
        for (int k = 0; k < book.size(); k++) {
            if (world.pole(book.get(k).first()) != book.get(k).second()) {
                return k;
            }
        }
        return NONE;
    }

    int seed(int v) {
        if (v < 0) {
            return OUTSIDE;
        }
        int was = (int) seed;
        seed = v;
        return was;
    }

    int keep(int i) {
        if (i != 0 && i != 1) {
            return UNKNOWN;
        }
        images.put(i, new Image(List.copyOf(log), seed));
        marks.clear();
        return 1;
    }

    int goBack(int i) {
        if (i != 0 && i != 1) {
            return UNKNOWN;
        }
        if (!images.containsKey(i)) {
            return NOT;
        }
        log = new ArrayList<>(images.get(i).log());
        seed = images.get(i).seed();
        marks.clear();
        return 1;
    }
}
