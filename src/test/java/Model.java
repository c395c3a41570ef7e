import java.util.ArrayList;
import java.util.Arrays;
import java.util.Collections;
import java.util.HashMap;
import java.util.HashSet;
import java.util.List;
import java.util.Map;
import java.util.NoSuchElementException;
import java.util.Set;

/**
 * The document told a second time, in its plainest form: everything is kept as it was told, and led anew for each
 * answer. ModelTest holds DogTrials against it.
 */
final class Model {
    static final class Refused extends RuntimeException {
        final int fault;
        final int place;

        Refused(int fault, int place) {
            this.fault = fault;
            this.place = place;
        }
    }

    interface Expr {
        int value(Map<String, Integer> values);
    }

    static final class Rules {
        final List<String> parts = new ArrayList<>();
        final List<Integer> points = new ArrayList<>();
        final List<String> faults = new ArrayList<>();
        final List<Expr> offs = new ArrayList<>();
        final List<Expr> outs = new ArrayList<>();
        List<String> tie = new ArrayList<>();
        int best = 5;
        int limit = Integer.MAX_VALUE;
    }

    static final class Row {
        int part;
        final List<Integer> faults = new ArrayList<>();
        final List<Integer> numbers = new ArrayList<>();
    }

    static final class CardText {
        int day;
        final List<Row> rows = new ArrayList<>();
        int time;
        boolean retired;
    }

    static final class Token {
        final String text;
        final int place;

        Token(String text, int place) {
            this.text = text;
            this.place = place;
        }

        boolean isWord() {
            return text.matches("[a-z]+");
        }

        boolean isNumber() {
            return text.matches("[0-9]+");
        }

        boolean isFree() {
            return isWord() && !KEYWORDS.contains(text);
        }
    }

    static final Set<String> KEYWORDS = new HashSet<>(Arrays.asList("part", "fault", "off", "out", "tie", "best",
        "limit", "time", "retired", "and", "or", "not", "n", "nth", "hour", "wind", "left", "total"));
    static final Set<String> VALUES =
        new HashSet<>(Arrays.asList("n", "nth", "hour", "wind", "left", "total", "time"));

    /** Reads a text as a row of TOKENS; the last one is empty and stands at the text's length. */
    static final class Reader {
        private final List<Token> tokens = new ArrayList<>();
        private int at;

        Reader(String text) {
            int i = 0;
            while (i < text.length()) {
                int from = i;
                char c = text.charAt(i);
                if (c == ' ' || c == '\n') {
                    i++;
                    continue;
                }
                String like = c >= 'a' && c <= 'z' ? "[a-z]" : c >= '0' && c <= '9' ? "[0-9]" : null;
                do {
                    i++;
                } while (like != null && i < text.length() && text.substring(i, i + 1).matches(like));
                tokens.add(new Token(text.substring(from, i), from));
            }
            tokens.add(new Token("", text.length()));
        }

        Token here() {
            return tokens.get(at);
        }

        boolean is(String text) {
            return here().text.equals(text);
        }

        Refused refused(int fault) {
            return new Refused(fault, here().place);
        }

        void take(String text) {
            if (!is(text)) {
                throw refused(1);
            }
            at++;
        }

        boolean takes(String text) {
            if (is(text)) {
                at++;
                return true;
            }
            return false;
        }

        int number(int least, int most) {
            if (!here().isNumber()) {
                throw refused(1);
            }
            String digits = here().text;
            if (digits.length() > 5 || Integer.parseInt(digits) < least || Integer.parseInt(digits) > most) {
                throw refused(2);
            }
            at++;
            return Integer.parseInt(digits);
        }

        String newName(List<String> told) {
            if (!here().isFree()) {
                throw refused(1);
            }
            if (here().text.length() > 8) {
                throw refused(2);
            }
            if (told.contains(here().text)) {
                throw refused(4);
            }
            at++;
            return tokens.get(at - 1).text;
        }

        Rules rules() {
            Rules rules = new Rules();
            int clauses = 0;
            boolean isFirst = true;
            while (isFirst || !is("")) {
                String head = here().text;
                if (head.equals("part") && clauses == 0) {
                    if (rules.parts.size() == 8) {
                        throw refused(2);
                    }
                    at++;
                    rules.parts.add(newName(rules.parts));
                    rules.points.add(number(1, 99));
                } else {
                    if (isFirst || !Arrays.asList("fault", "out", "tie", "best", "limit").contains(head)) {
                        throw refused(1);
                    }
                    if (clauses == 20 || head.equals("fault") && rules.faults.size() == 10) {
                        throw refused(2);
                    }
                    clauses++;
                    at++;
                    clause(rules, head);
                }
                isFirst = false;
                take(";");
            }
            return rules;
        }

        private void clause(Rules rules, String head) {
            if (head.equals("fault")) {
                rules.faults.add(newName(rules.faults));
                take("off");
                rules.offs.add(expr(0));
            } else if (head.equals("out")) {
                rules.outs.add(expr(0));
            } else if (head.equals("best")) {
                rules.best = number(1, 20);
            } else if (head.equals("limit")) {
                rules.limit = number(1, 9999);
            } else {
                rules.tie = new ArrayList<>();
                do {
                    String name = here().text;
                    if (!here().isFree() && !name.equals("time")) {
                        throw refused(1);
                    }
                    if (rules.tie.size() == 8 || name.length() > 8) {
                        throw refused(2);
                    }
                    if (!name.equals("time") && !rules.parts.contains(name)) {
                        throw refused(3);
                    }
                    if (rules.tie.contains(name)) {
                        throw refused(4);
                    }
                    rules.tie.add(name);
                    at++;
                } while (takes(","));
            }
        }

        private static int bit(boolean b) {
            return b ? 1 : 0;
        }

        Expr expr(int within) {
            if (within == 6) {
                throw refused(here().isNumber() || here().isWord() || is("(") ? 2 : 1);
            }
            Expr left = and(within);
            while (takes("or")) {
                Expr a = left;
                Expr b = and(within);
                left = v -> bit(a.value(v) != 0 | b.value(v) != 0);
            }
            return left;
        }

        private Expr and(int within) {
            Expr left = not(within, 0);
            while (takes("and")) {
                Expr a = left;
                Expr b = not(within, 0);
                left = v -> bit(a.value(v) != 0 & b.value(v) != 0);
            }
            return left;
        }

        private Expr not(int within, int nots) {
            if (is("not")) {
                if (nots == 6) {
                    throw refused(2);
                }
                at++;
                Expr a = not(within, nots + 1);
                return v -> bit(a.value(v) == 0);
            }
            Expr a = sum(within);
            if (takes("<")) {
                Expr b = sum(within);
                return v -> bit(a.value(v) < b.value(v));
            }
            if (takes("=")) {
                Expr b = sum(within);
                return v -> bit(a.value(v) == b.value(v));
            }
            return a;
        }

        private Expr sum(int within) {
            Expr left = product(within);
            while (is("+") || is("-")) {
                int sign = is("+") ? 1 : -1;
                at++;
                Expr a = left;
                Expr b = product(within);
                left = v -> a.value(v) + sign * b.value(v);
            }
            return left;
        }

        private Expr product(int within) {
            Expr left = point(within);
            while (is("*") || is("/")) {
                boolean isTimes = is("*");
                at++;
                Expr a = left;
                Expr b = point(within);
                left = isTimes ? v -> a.value(v) * b.value(v) : v -> {
                    long by = b.value(v);
                    return by == 0 ? 0 : (int) (a.value(v) / by);
                };
            }
            return left;
        }

        private Expr point(int within) {
            if (here().isNumber()) {
                int number = number(0, 99999);
                return v -> number;
            }
            if (here().isWord()) {
                String word = here().text;
                if (!VALUES.contains(word)) {
                    throw refused(3);
                }
                at++;
                return v -> v.getOrDefault(word, 0);
            }
            take("(");
            Expr inner = expr(within + 1);
            take(")");
            return inner;
        }

        CardText card(Rules rules) {
            CardText card = new CardText();
            int faults = 0;
            while (here().isFree()) {
                Row row = new Row();
                row.part = known(rules.parts);
                for (Row told : card.rows) {
                    if (told.part >= row.part) {
                        throw refused(4);
                    }
                }
                at++;
                while (here().isFree()) {
                    if (faults == 40) {
                        throw refused(2);
                    }
                    row.faults.add(known(rules.faults));
                    at++;
                    row.numbers.add(here().isNumber() ? number(0, 99999) : 1);
                    faults++;
                }
                take(";");
                card.rows.add(row);
            }
            if (takes("time")) {
                card.time = number(0, 99999);
                take(";");
            }
            if (takes("retired")) {
                card.retired = true;
                take(";");
            }
            take("");
            return card;
        }

        private int known(List<String> names) {
            if (here().text.length() > 8) {
                throw refused(2);
            }
            if (!names.contains(here().text)) {
                throw refused(3);
            }
            return names.indexOf(here().text);
        }
    }

    private int today;
    private int judges;
    private int packets;
    private String tape = "";
    private int faultPlace = -1;
    private final List<int[]> dogs = new ArrayList<>();
    private final List<Rules> books = new ArrayList<>();
    private final List<int[]> trials = new ArrayList<>();
    private final List<int[]> runs = new ArrayList<>();
    private final List<List<CardText>> cards = new ArrayList<>();
    private int cardCount;
    private final List<int[]> protests = new ArrayList<>();
    private final List<Integer> list = new ArrayList<>();

    private static void exists(int i, int size) {
        if (i < 0 || i >= size) {
            throw new NoSuchElementException();
        }
    }

    private void isDay(int k) {
        if (k < 0 || k > today) {
            throw new IllegalArgumentException();
        }
    }

    int comes(int what) {
        exists(what, 2);
        if (what == 0) {
            return judges == 6 ? -1 : judges++;
        }
        return packets == 12 ? -1 : packets++;
    }

    int dog(int handler, int sire, int dam) {
        int size = dogs.size();
        if (size == 24 || handler < 0 || handler > 11 || sire < -1 || sire >= size || dam < -1 || dam >= size) {
            return -1;
        }
        dogs.add(new int[] {handler, sire, dam});
        return size;
    }

    int feed(int... numbers) {
        if (tape.length() + 20 > 600) {
            return -1;
        }
        for (int n : numbers) {
            tape += "" + (char) (n >>> 24) + (char) (n >> 16 & 255) + (char) (n >> 8 & 255) + (char) (n & 255);
        }
        return tape.length();
    }

    private String taken(int n) {
        if (n < 0 || n > tape.length()) {
            throw new IllegalArgumentException();
        }
        String text = tape.substring(0, n);
        tape = "";
        faultPlace = -1;
        return text;
    }

    int rules(int n) {
        String text = taken(n);
        if (books.size() == 6) {
            return -9;
        }
        try {
            books.add(new Reader(text).rules());
            return books.size() - 1;
        } catch (Refused r) {
            faultPlace = r.place;
            return -1 - r.fault;
        }
    }

    int fault() {
        return faultPlace;
    }

    int days(int n) {
        if (n < 0 || (long) today + n > 999) {
            throw new IllegalArgumentException();
        }
        today += n;
        return today;
    }

    int trial(int rules, int day, int judge) {
        exists(rules, books.size());
        exists(judge, judges);
        if (trials.size() == 20 || day < 0 || day > 999) {
            return -1;
        }
        trials.add(new int[] {rules, day, judge});
        return trials.size() - 1;
    }

    int run(int trial, int dog, int packet, int hour, int wind) {
        exists(trial, trials.size());
        exists(dog, dogs.size());
        exists(packet, packets);
        if (runs.size() == 120 || hour < 0 || hour > 23 || wind < 0 || wind > 9) {
            return -1;
        }
        runs.add(new int[] {trial, dog, hour, wind});
        cards.add(new ArrayList<>());
        return runs.size() - 1;
    }

    private Rules rulesOf(int run) {
        return books.get(trials.get(runs.get(run)[0])[0]);
    }

    int card(int run, int n) {
        exists(run, runs.size());
        String text = taken(n);
        if (cardCount == 200) {
            return 9;
        }
        try {
            CardText card = new Reader(text).card(rulesOf(run));
            card.day = today;
            cards.get(run).add(card);
            cardCount++;
            return 0;
        } catch (Refused r) {
            faultPlace = r.place;
            return r.fault;
        }
    }

    private CardText known(int run, int k) {
        CardText known = null;
        for (CardText card : cards.get(run)) {
            known = card.day <= k ? card : known;
        }
        return known;
    }

    /** What each fault took off, and behind them the POINTS of each PART. */
    private List<List<Integer>> led(int run, CardText card) {
        Rules rules = rulesOf(run);
        List<Integer> took = new ArrayList<>();
        List<Integer> points = new ArrayList<>(Collections.nCopies(rules.parts.size(), 0));
        for (Row row : card.rows) {
            int left = rules.points.get(row.part);
            for (int i = 0; i < row.faults.size(); i++) {
                int fault = row.faults.get(i);
                Map<String, Integer> values = new HashMap<>();
                values.put("n", row.numbers.get(i));
                values.put("nth", Collections.frequency(row.faults.subList(0, i + 1), fault));
                values.put("hour", runs.get(run)[2]);
                values.put("wind", runs.get(run)[3]);
                values.put("left", left);
                int off = rules.offs.get(fault).value(values);
                off = off < 0 ? 0 : off > left ? left : off;
                took.add(off);
                left -= off;
            }
            points.set(row.part, left);
        }
        return Arrays.asList(took, points);
    }

    private int totalBefore(int run, CardText card) {
        return led(run, card).get(1).stream().mapToInt(p -> p).sum();
    }

    private int total(int run, int k) {
        int total = totalBefore(run, known(run, k));
        for (int[] p : protests) {
            total += p[0] == run && p[1] >= 0 && p[1] <= k && p[2] == 3 ? p[3] : 0;
        }
        return Math.max(total, 0);
    }

    private boolean made(int how, int run, int k) {
        return protests.stream().anyMatch(p -> p[0] == run && p[1] >= 0 && p[1] <= k && p[2] == how);
    }

    private boolean out(int run, int k) {
        CardText card = known(run, k);
        Map<String, Integer> values = new HashMap<>();
        values.put("total", totalBefore(run, card));
        values.put("time", card.time);
        values.put("hour", runs.get(run)[2]);
        values.put("wind", runs.get(run)[3]);
        return card.retired || card.time > rulesOf(run).limit || made(2, run, k)
            || rulesOf(run).outs.stream().anyMatch(o -> o.value(values) != 0);
    }

    private boolean counts(int run, int k) {
        return known(run, k) != null && !made(1, run, k) && !out(run, k);
    }

    private boolean ahead(int a, int b, int k) {
        if (total(a, k) != total(b, k)) {
            return total(a, k) > total(b, k);
        }
        Rules rules = rulesOf(a);
        for (String key : rules.tie) {
            int part = rules.parts.indexOf(key);
            int x = key.equals("time") ? -known(a, k).time : led(a, known(a, k)).get(1).get(part);
            int y = key.equals("time") ? -known(b, k).time : led(b, known(b, k)).get(1).get(part);
            if (x != y) {
                return x > y;
            }
        }
        return false;
    }

    int told(int run, int what, int k) {
        exists(run, runs.size());
        if (what < 0 || what > 5 && what < 10 || what >= 10 + rulesOf(run).parts.size()) {
            throw new NoSuchElementException();
        }
        isDay(k);
        CardText card = known(run, k);
        if (what == 3) {
            return counts(run, k) ? 1 : 0;
        }
        if (what == 4) {
            int place = 1;
            for (int i = 0; i < runs.size(); i++) {
                place += counts(run, k) && runs.get(i)[0] == runs.get(run)[0] && counts(i, k) && ahead(i, run, k)
                    ? 1 : 0;
            }
            return counts(run, k) ? place : -1;
        }
        if (card == null) {
            return -1;
        }
        switch (what) {
            case 0:
                return total(run, k);
            case 1:
                return card.time;
            case 2:
                return out(run, k) ? 1 : 0;
            case 5:
                return led(run, card).get(0).size();
            default:
                return led(run, card).get(1).get(what - 10);
        }
    }

    int took(int run, int i, int k) {
        exists(run, runs.size());
        isDay(k);
        CardText card = known(run, k);
        exists(i, card == null ? 0 : led(run, card).get(0).size());
        return led(run, card).get(0).get(i);
    }

    int protest(int run) {
        exists(run, runs.size());
        if (protests.size() == 40 || known(run, today) == null) {
            return -1;
        }
        protests.add(new int[] {run, -1, 0, 0});
        return protests.size() - 1;
    }

    boolean decide(int protest, int how, int points) {
        exists(protest, protests.size());
        int[] p = protests.get(protest);
        if (p[1] >= 0 || how < 0 || how > 3 || how != 3 && points != 0 || points < -50 || points > 50) {
            return false;
        }
        p[1] = today;
        p[2] = how;
        p[3] = points;
        return true;
    }

    /** Rows of sum, greatest and DOG, in ORDER. */
    private List<int[]> ladder(int a, int b, int k) {
        int best = books.isEmpty() ? 5 : books.get(books.size() - 1).best;
        List<int[]> rows = new ArrayList<>();
        for (int dog = 0; dog < dogs.size(); dog++) {
            List<Integer> totals = new ArrayList<>();
            for (int run = 0; run < runs.size(); run++) {
                int day = trials.get(runs.get(run)[0])[1];
                if (runs.get(run)[1] == dog && a <= day && day <= b && counts(run, k)) {
                    totals.add(total(run, k));
                }
            }
            totals.sort(Collections.reverseOrder());
            if (!totals.isEmpty()) {
                int sum = totals.stream().limit(best).mapToInt(t -> t).sum();
                rows.add(new int[] {sum, totals.get(0), dog});
            }
        }
        rows.sort((x, y) -> x[0] != y[0] ? y[0] - x[0] : x[1] != y[1] ? y[1] - x[1] : x[2] - y[2]);
        return rows;
    }

    int ladder(int a, int b, int place, int k) {
        isDay(k);
        List<int[]> rows = ladder(a, b, k);
        if (place == -1) {
            return rows.size();
        }
        exists(place, rows.size());
        return rows.get(place)[2];
    }

    int sum(int dog, int a, int b, int k) {
        exists(dog, dogs.size());
        isDay(k);
        return ladder(a, b, k).stream().filter(r -> r[2] == dog).mapToInt(r -> r[0]).findFirst().orElse(-1);
    }

    void list() {
        list.clear();
    }

    int enters(int dog) {
        exists(dog, dogs.size());
        if (list.size() == 8 || list.contains(dog)) {
            return -1;
        }
        list.add(dog);
        return list.size();
    }

    private int[][] firstTotals(int k) {
        int[][] totals = new int[Math.max(1, dogs.size())][6];
        for (int[] row : totals) {
            Arrays.fill(row, -1);
        }
        for (int run = runs.size() - 1; run >= 0; run--) {
            if (counts(run, k)) {
                totals[runs.get(run)[1]][trials.get(runs.get(run)[0])[2]] = total(run, k);
            }
        }
        return totals;
    }

    long scale(int judge, int what, int k) {
        exists(judge, judges);
        exists(what, 3);
        isDay(k);
        int[][] totals = firstTotals(k);
        if (what == 0) {
            return Fractions.scale(totals, judge);
        }
        if (what == 2) {
            int least = 0;
            while (!Fractions.group(totals, judge)[least]) {
                least++;
            }
            return least;
        }
        int met = 0;
        for (int[] row : totals) {
            for (int other = 0; other < 6; other++) {
                met += other != judge && row[judge] >= 0 && row[other] >= 0 ? 1 : 0;
            }
        }
        return met;
    }

    int luck(int trial, int hour, int k) {
        exists(trial, trials.size());
        exists(hour, 24);
        isDay(k);
        long then = 0;
        long thenCount = 0;
        long all = 0;
        long allCount = 0;
        for (int run = 0; run < runs.size(); run++) {
            if (runs.get(run)[0] == trial && counts(run, k)) {
                all += total(run, k);
                allCount++;
                then += runs.get(run)[2] == hour ? total(run, k) : 0;
                thenCount += runs.get(run)[2] == hour ? 1 : 0;
            }
        }
        if (thenCount == 0) {
            return -1000000;
        }
        java.math.BigDecimal over = java.math.BigDecimal.valueOf(1000 * (then * allCount - all * thenCount));
        java.math.BigDecimal under = java.math.BigDecimal.valueOf(thenCount * allCount);
        return over.divide(under, 0, java.math.RoundingMode.FLOOR).intValueExact();
    }

    int count(int what) {
        exists(what, 11);
        return new int[] {today, judges, packets, dogs.size(), books.size(), trials.size(), runs.size(), cardCount,
            protests.size(), list.size(), tape.length()}[what];
    }
}
