import java.util.Arrays;
import java.util.NoSuchElementException;

/** Trials of dogs with sheep, as ../shared/DOC.md promises them; words in capitals are its words. */
public final class DogTrials {
    public static final int NONE = -1;

    private static final int LAST_DAY = 999;
    private static final int MOST_JUDGES = 6;
    private static final int MOST_PACKETS = 12;
    private static final int MOST_RULES = 6;
    private static final int RULES_FULL = -9;
    private static final int CARDS_FULL = 9;
    private static final int BEST_WITHOUT_RULES = 5;

    private int today;
    private int judgeCount;
    private int packetCount;
    private final Kennel kennel;
    private final Text tape;
    private final RuleBook[] books;
    private int bookCount;
    private final CardReader cardReader;
    private final Season season;
    private final Ladder standing;
    private final Scales scales;
    private final Draw drawing;

    public DogTrials() {
        kennel = new Kennel();
        tape = new Text();
        books = new RuleBook[MOST_RULES];
        cardReader = new CardReader();
        season = new Season();
        standing = new Ladder();
        scales = new Scales();
        drawing = new Draw();
    }

    public int comes(int what) throws NoSuchElementException {
        if (what != 0 && what != 1) {
            throw new NoSuchElementException();
        }
        if (what == 0) {
            return judgeCount < MOST_JUDGES ? judgeCount++ : NONE;
        }
        return packetCount < MOST_PACKETS ? packetCount++ : NONE;
    }

    public int dog(int handler, int sire, int dam) {
        return kennel.add(handler, sire, dam);
    }

    public long kin(int a, int b) throws NoSuchElementException {
        needDog(a);
        needDog(b);
        return kennel.kinOf(a, b);
    }

    public long inbred(int dog) throws NoSuchElementException {
        needDog(dog);
        return kennel.inbredOf(dog);
    }

    public int feed(int a, int b, int c, int d, int e) {
        if (!tape.hasRoom()) {
            return NONE;
        }
        tape.append(a);
        tape.append(b);
        tape.append(c);
        tape.append(d);
        tape.append(e);
        return tape.size;
    }

    public int rules(int n) throws IllegalArgumentException {
        needBytes(n);
        if (bookCount >= MOST_RULES) {
            tape.drop();
            return RULES_FULL;
        }
        tape.begin(n);
        RuleBook book = new RuleBook(n);
        if (!book.readFrom(tape)) {
            return -1 - tape.fault;
        }
        books[bookCount] = book;
        bookCount++;
        return bookCount - 1;
    }

    public int fault() {
        return tape.faultPlace;
    }

    public int days(int n) throws IllegalArgumentException {
        if (n < 0 || n > LAST_DAY - today) {
            throw new IllegalArgumentException();
        }
        today += n;
        return today;
    }

    public int trial(int rules, int day, int judge) throws NoSuchElementException {
        needBelow(rules, bookCount);
        needBelow(judge, judgeCount);
        if (day < 0 || day > LAST_DAY) {
            return NONE;
        }
        return season.addTrial(books[rules], day, judge);
    }

    public int run(int trial, int dog, int packet, int hour, int wind) throws NoSuchElementException {
        needBelow(trial, season.trialCount);
        needDog(dog);
        needBelow(packet, packetCount);
        return season.addRun(trial, dog, hour, wind);
    }

    public int card(int run, int n) throws NoSuchElementException, IllegalArgumentException {
        needRun(run);
        needBytes(n);
        if (season.cardCount >= Season.MOST_CARDS) {
            tape.drop();
            return CARDS_FULL;
        }
        tape.begin(n);
        Card told = cardReader.read(tape, season.bookOf(run), season.runs[run]);
        if (told == null) {
            return tape.fault;
        }
        season.addCard(run, told, today);
        return 0;
    }

    public int told(int run, int what, int k) throws NoSuchElementException, IllegalArgumentException {
        needRun(run);
        boolean isPart = what >= 10 && what - 10 < season.bookOf(run).partCount;
        if (!isPart && (what < 0 || what > 5)) {
            throw new NoSuchElementException();
        }
        needKnownDay(k);
        if (what == 3) {
            return season.isCounted(run, k) ? 1 : 0;
        }
        if (what == 4) {
            return season.placeOf(run, k);
        }
        Card known = season.cardOn(run, k);
        if (known == null) {
            return NONE;
        }
        switch (what) {
            case 0:
                return season.totalOf(run, k);
            case 1:
                return known.time;
            case 2:
                return season.isOut(run, k) ? 1 : 0;
            case 5:
                return known.faultCount;
            default:
                return known.points[what - 10];
        }
    }

    public int took(int run, int i, int k) throws NoSuchElementException, IllegalArgumentException {
        needRun(run);
        needKnownDay(k);
        Card known = season.cardOn(run, k);
        if (known == null) {
            throw new NoSuchElementException();
        }
        needBelow(i, known.faultCount);
        return known.takenOff[i];
    }

    public int protest(int run) throws NoSuchElementException {
        needRun(run);
        return season.addProtest(run, today);
    }

    public boolean decide(int protest, int how, int points) throws NoSuchElementException {
        needBelow(protest, season.protestCount);
        return season.settle(protest, how, points, today);
    }

    public int ladder(int a, int b, int place, int k) throws NoSuchElementException, IllegalArgumentException {
        needKnownDay(k);
        standing.reckon(season, a, b, k, bestCounted());
        if (place == NONE) {
            return standing.size();
        }
        int found = standing.dogAt(place);
        if (found == NONE) {
            throw new NoSuchElementException();
        }
        return found;
    }

    public int sum(int dog, int a, int b, int k) throws NoSuchElementException, IllegalArgumentException {
        needDog(dog);
        needKnownDay(k);
        standing.reckon(season, a, b, k, bestCounted());
        return standing.sums[dog];
    }

    public void list() {
        drawing.clear();
    }

    public int enters(int dog) throws NoSuchElementException {
        needDog(dog);
        return drawing.enter(dog);
    }

    public int draw(long seed, int apart) throws IllegalArgumentException {
        if (apart < 1 || apart > Draw.MOST_DOGS) {
            throw new IllegalArgumentException();
        }
        return drawing.make(seed, apart, kennel);
    }

    public int drawn(int i) throws NoSuchElementException {
        if (i == NONE) {
            return drawing.keptCount;
        }
        needBelow(i, drawing.keptCount);
        return drawing.kept[i];
    }

    /*
     * No search is needed. Among m + 1 RUNS in a row two have one PACKET, so with more than m RUNS no REST is above m,
     * and a REST of m makes any m RUNS in a row unlike: the first m in turn, over and over. With m RUNS or fewer only
     * rows of unlike PACKETS have the REST 9, and 0, 1, 2 .. is the first of them.
     */
    public int packets(int runs, int m, int u) throws IllegalArgumentException {
        if (runs < 1 || runs > 8 || m < 1 || m > 4 || u < 1 || u > 8) {
            throw new IllegalArgumentException();
        }
        if (runs > m * u) {
            return NONE;
        }
        int row = 0;
        for (int i = 0; i < runs; i++) {
            row |= (i % m) << (2 * i);
        }
        return row;
    }

    public long scale(int judge, int what, int k) throws NoSuchElementException, IllegalArgumentException {
        needBelow(judge, judgeCount);
        needBelow(what, 3);
        needKnownDay(k);
        scales.reckon(season, k);
        if (what == 0) {
            return scales.scaleOf(judge);
        }
        return what == 1 ? scales.metOf(judge) : scales.group[judge];
    }

    public int luck(int trial, int hour, int k) throws NoSuchElementException, IllegalArgumentException {
        needBelow(trial, season.trialCount);
        needBelow(hour, Season.HOURS);
        needKnownDay(k);
        return season.luckOf(trial, hour, k);
    }

    public int count(int what) throws NoSuchElementException {
        switch (what) {
            case 0:
                return today;
            case 1:
                return judgeCount;
            case 2:
                return packetCount;
            case 3:
                return kennel.dogCount;
            case 4:
                return bookCount;
            case 5:
                return season.trialCount;
            case 6:
                return season.runCount;
            case 7:
                return season.cardCount;
            case 8:
                return season.protestCount;
            case 9:
                return drawing.entered;
            case 10:
                return tape.size;
            default:
                throw new NoSuchElementException();
        }
    }

    private int bestCounted() {
        return bookCount == 0 ? BEST_WITHOUT_RULES : books[bookCount - 1].best;
    }

    private void needDog(int dog) {
        needBelow(dog, kennel.dogCount);
    }

    private void needRun(int run) {
        needBelow(run, season.runCount);
    }

    private static void needBelow(int number, int howMany) {
        if (number < 0 || number >= howMany) {
            throw new NoSuchElementException();
        }
    }

    private void needBytes(int n) {
        if (n < 0 || n > tape.size) {
            throw new IllegalArgumentException();
        }
    }

    private void needKnownDay(int k) {
        if (k < 0 || k > today) {
            throw new IllegalArgumentException();
        }
    }

    /** DOGS and their papers. */
    private static final class Kennel {
        static final int MOST_DOGS = 24;
        static final int HANDLERS = 12;
        private static final long HALF = 1L << 39;

        int dogCount;
        final int[] handlers = new int[MOST_DOGS];
        private final int[] sires = new int[MOST_DOGS];
        private final int[] dams = new int[MOST_DOGS];
        /*
         * In parts of 2^40. KIN of a DOG is halves of KIN of DOGS ahead of it, so that of the 24th has at most 24
         * halvings behind it: every number here is whole, and nothing is ever cut.
         */
        private final long[][] kinTable = new long[MOST_DOGS][MOST_DOGS];

        int add(int handler, int sire, int dam) {
            boolean fits = handler >= 0 && handler < HANDLERS && isParent(sire) && isParent(dam);
            if (dogCount >= MOST_DOGS || !fits) {
                return NONE;
            }
            int added = dogCount;
            handlers[added] = handler;
            sires[added] = sire;
            dams[added] = dam;
            for (int j = 0; j < added; j++) {
                long half = (kinOrNothing(sire, j) + kinOrNothing(dam, j)) / 2;
                kinTable[added][j] = half;
                kinTable[j][added] = half;
            }
            kinTable[added][added] = HALF + kinOrNothing(sire, dam) / 2;
            dogCount++;
            return added;
        }

        long kinOf(int a, int b) {
            return kinTable[a][b];
        }

        long inbredOf(int dog) {
            return kinOrNothing(sires[dog], dams[dog]);
        }

        private boolean isParent(int number) {
            return number == NONE || number >= 0 && number < dogCount;
        }

        private long kinOrNothing(int a, int b) {
            return a == NONE || b == NONE ? 0 : kinTable[a][b];
        }
    }

    /** The tape, and the TOKENS of the text that its first bytes are. */
    private static final class Text {
        static final int MOST_BYTES = 600;
        static final int BYTES_AT_ONCE = 20;
        static final int MOST_NUMBER = 99999;
        private static final int MOST_DIGITS = 5;
        private static final int MOST_LETTERS = 8;

        static final int END = 0;
        static final int WORD = 1;
        static final int NUMBER = 2;
        static final int SIGN = 3;
        static final int NO_TOKEN = 4;
        private static final int BLANK = 5;

        static final int CANNOT_STAND = 1;
        static final int TOO_MUCH = 2;
        static final int NOT_KNOWN = 3;
        static final int TOLD_ALREADY = 4;

        private static final String SIGNS = ";,()+-*/<=";
        private static final String KEYWORDS =
            "part fault off out tie best limit time retired and or not n nth hour wind left total";

        int size;
        int kind;
        int fault;
        int faultPlace = NONE;
        private final int[] bytes = new int[MOST_BYTES];
        private final int[] kinds = new int[MOST_BYTES];
        private int length;
        private int start;
        private int behind;

        boolean hasRoom() {
            return size <= MOST_BYTES - BYTES_AT_ONCE;
        }

        void append(int number) {
            for (int shift = 24; shift >= 0; shift -= 8) {
                if (size < MOST_BYTES) {
                    bytes[size] = number >>> shift & 255;
                    kinds[size] = kindOf(bytes[size]);
                    size++;
                }
            }
        }

        void drop() {
            size = 0;
            fault = 0;
            faultPlace = NONE;
        }

        /** The tape is empty from here on, but the text's bytes stay until others are fed. */
        void begin(int n) {
            drop();
            length = n;
            behind = 0;
            step();
        }

        void step() {
            while (behind < length && kinds[behind] == BLANK) {
                behind++;
            }
            start = behind;
            if (behind >= length) {
                kind = END;
                return;
            }
            kind = kinds[behind];
            behind++;
            boolean isRow = kind == WORD || kind == NUMBER;
            while (isRow && behind < length && kinds[behind] == kind) {
                behind++;
            }
        }

        boolean refuse(int why) {
            fault = why;
            faultPlace = start;
            return false;
        }

        boolean isSign(char sign) {
            return kind == SIGN && bytes[start] == sign;
        }

        boolean isWord(String word) {
            return among(word) == 0;
        }

        boolean isNoKeyword() {
            return kind == WORD && among(KEYWORDS) == NONE;
        }

        boolean isTooLongForName() {
            return behind - start > MOST_LETTERS;
        }

        /** Which one of the words, parted by single blanks, the TOKEN is; NONE: it is none of them. */
        int among(String words) {
            if (kind != WORD) {
                return NONE;
            }
            int which = 0;
            int at = start;
            boolean isSame = true;
            for (int i = 0; i <= words.length(); i++) {
                char c = i < words.length() ? words.charAt(i) : ' ';
                if (c != ' ') {
                    isSame = isSame && at < behind && bytes[at] == c;
                    at++;
                } else if (isSame && at == behind) {
                    return which;
                } else {
                    which++;
                    at = start;
                    isSame = true;
                }
            }
            return NONE;
        }

        /** Unlike for unlike words of up to 8 letters: a number to the base 27. */
        long name() {
            long code = 0;
            for (int i = start; i < behind; i++) {
                code = code * 27 + (bytes[i] - 'a' + 1);
            }
            return code;
        }

        boolean takeSign(char sign) {
            if (!isSign(sign)) {
                return refuse(CANNOT_STAND);
            }
            step();
            return true;
        }

        boolean takeWord(String word) {
            if (!isWord(word)) {
                return refuse(CANNOT_STAND);
            }
            step();
            return true;
        }

        /** NONE: it is refused. */
        int takeNumber(int least, int most) {
            if (kind != NUMBER) {
                refuse(CANNOT_STAND);
                return NONE;
            }
            int value = number();
            if (value < least || value > most) {
                refuse(TOO_MUCH);
                return NONE;
            }
            step();
            return value;
        }

        private int number() {
            if (behind - start > MOST_DIGITS) {
                return NONE;
            }
            int value = 0;
            for (int i = start; i < behind; i++) {
                value = value * 10 + (bytes[i] - '0');
            }
            return value;
        }

        private static int kindOf(int b) {
            if (b >= 'a' && b <= 'z') {
                return WORD;
            }
            if (b >= '0' && b <= '9') {
                return NUMBER;
            }
            if (b == 32 || b == 10) {
                return BLANK;
            }
            return SIGNS.indexOf((char) b) >= 0 ? SIGN : NO_TOKEN;
        }
    }

    /** EXPRS of one RULES, kept as what a stack does: operands first, then what is made of them. */
    private static final class Formulas {
        static final int N = 0;
        static final int NTH = 1;
        static final int HOUR = 2;
        static final int WIND = 3;
        static final int LEFT = 4;
        static final int TOTAL = 5;
        static final int TIME = 6;
        private static final String VALUE_WORDS = "n nth hour wind left total time";

        private static final int MOST_WITHIN = 6;
        private static final int MOST_NOTS = 6;
        /*
         * In one EXPR at most five left sides wait (of or, and, a test, a sum, a product), in six EXPRS within one
         * another thirty, and one operand more stands on top of them.
         */
        private static final int STACK = 31;

        // A NUMBER stands in the code as itself, so all else is below 0.
        private static final int STOP = -1;
        private static final int OR = -2;
        private static final int AND = -3;
        private static final int NOT = -4;
        private static final int LESS = -5;
        private static final int LIKE = -6;
        private static final int PLUS = -7;
        private static final int MINUS = -8;
        private static final int TIMES = -9;
        private static final int OVER = -10;
        private static final int FIRST_VALUE = -11;

        final int[] values = new int[7];
        private final int[] code;
        private int size;
        private final int[] stack = new int[STACK];

        /** No TOKEN makes more than one number of code, and none is shorter than a byte. */
        Formulas(int bytes) {
            code = new int[bytes];
        }

        /** Where the EXPR begins in the code; NONE: it is refused. */
        int read(Text text) {
            int from = size;
            if (!readOr(text, 0)) {
                return NONE;
            }
            put(STOP);
            return from;
        }

        int valueAt(int from) {
            int top = 0;
            for (int i = from; i >= 0 && i < size && code[i] != STOP; i++) {
                int c = code[i];
                if (c >= 0 || c <= FIRST_VALUE) {
                    if (top < STACK) {
                        stack[top] = c >= 0 ? c : values[FIRST_VALUE - c];
                        top++;
                    }
                } else if (c == NOT) {
                    if (top > 0) {
                        stack[top - 1] = stack[top - 1] == 0 ? 1 : 0;
                    }
                } else if (top > 1) {
                    top--;
                    stack[top - 1] = joined(c, stack[top - 1], stack[top]);
                }
            }
            return top > 0 ? stack[top - 1] : 0;
        }

        void clearValues() {
            Arrays.fill(values, 0);
        }

        private boolean readOr(Text text, int within) {
            if (within >= MOST_WITHIN) {
                boolean canStand = text.kind == Text.NUMBER || text.kind == Text.WORD || text.isSign('(');
                return text.refuse(canStand ? Text.TOO_MUCH : Text.CANNOT_STAND);
            }
            if (!readAnd(text, within)) {
                return false;
            }
            for (int i = 0; i < Text.MOST_BYTES && text.isWord("or"); i++) {
                text.step();
                if (!readAnd(text, within)) {
                    return false;
                }
                put(OR);
            }
            return true;
        }

        private boolean readAnd(Text text, int within) {
            if (!readNot(text, within)) {
                return false;
            }
            for (int i = 0; i < Text.MOST_BYTES && text.isWord("and"); i++) {
                text.step();
                if (!readNot(text, within)) {
                    return false;
                }
                put(AND);
            }
            return true;
        }

        private boolean readNot(Text text, int within) {
            int nots = 0;
            while (nots < MOST_NOTS && text.isWord("not")) {
                text.step();
                nots++;
            }
            if (text.isWord("not")) {
                return text.refuse(Text.TOO_MUCH);
            }
            if (!readTest(text, within)) {
                return false;
            }
            for (int i = 0; i < nots; i++) {
                put(NOT);
            }
            return true;
        }

        private boolean readTest(Text text, int within) {
            if (!readSum(text, within)) {
                return false;
            }
            if (!text.isSign('<') && !text.isSign('=')) {
                return true;
            }
            int test = text.isSign('<') ? LESS : LIKE;
            text.step();
            if (!readSum(text, within)) {
                return false;
            }
            put(test);
            return true;
        }

        private boolean readSum(Text text, int within) {
            if (!readProduct(text, within)) {
                return false;
            }
            for (int i = 0; i < Text.MOST_BYTES && (text.isSign('+') || text.isSign('-')); i++) {
                int what = text.isSign('+') ? PLUS : MINUS;
                text.step();
                if (!readProduct(text, within)) {
                    return false;
                }
                put(what);
            }
            return true;
        }

        private boolean readProduct(Text text, int within) {
            if (!readPoint(text, within)) {
                return false;
            }
            for (int i = 0; i < Text.MOST_BYTES && (text.isSign('*') || text.isSign('/')); i++) {
                int what = text.isSign('*') ? TIMES : OVER;
                text.step();
                if (!readPoint(text, within)) {
                    return false;
                }
                put(what);
            }
            return true;
        }

        private boolean readPoint(Text text, int within) {
            if (text.kind == Text.NUMBER) {
                int number = text.takeNumber(0, Text.MOST_NUMBER);
                put(number);
                return number != NONE;
            }
            if (text.kind == Text.WORD) {
                int value = text.among(VALUE_WORDS);
                if (value == NONE) {
                    return text.refuse(Text.NOT_KNOWN);
                }
                text.step();
                put(FIRST_VALUE - value);
                return true;
            }
            return text.takeSign('(') && readOr(text, within + 1) && text.takeSign(')');
        }

        private void put(int c) {
            if (size < code.length) {
                code[size] = c;
                size++;
            }
        }

        private static int joined(int what, int a, int b) {
            switch (what) {
                case OR:
                    return a != 0 || b != 0 ? 1 : 0;
                case AND:
                    return a != 0 && b != 0 ? 1 : 0;
                case LESS:
                    return a < b ? 1 : 0;
                case LIKE:
                    return a == b ? 1 : 0;
                case PLUS:
                    return a + b;
                case MINUS:
                    return a - b;
                case TIMES:
                    return a * b;
                default:
                    return b == 0 ? 0 : a / b;
            }
        }
    }

    /** RULES: PARTS, faults, and how RUNS are OUT, tied and summed. */
    private static final class RuleBook {
        static final int MOST_PARTS = 8;
        static final int MOST_FAULTS = 10;
        static final int MOST_CLAUSES = 20;
        static final int MOST_TIES = 8;
        static final int MOST_BEST = 20;
        static final int TIE_BY_TIME = MOST_PARTS;
        private static final int MOST_POINTS = 99;
        private static final int MOST_LIMIT = 9999;
        private static final String CLAUSES = "fault out tie best limit";

        int partCount;
        final int[] partPoints = new int[MOST_PARTS];
        final int[] faultFormula = new int[MOST_FAULTS];
        int outCount;
        final int[] outFormula = new int[MOST_CLAUSES];
        int tieCount;
        final int[] ties = new int[MOST_TIES];
        int best = BEST_WITHOUT_RULES;
        int limit = NONE;
        final Formulas formulas;
        private int faultCount;
        private int clauseCount;
        private final long[] partNames = new long[MOST_PARTS];
        private final long[] faultNames = new long[MOST_FAULTS];

        RuleBook(int bytes) {
            formulas = new Formulas(bytes);
        }

        /** False: the text has a FAULT, and the book is of no use. */
        boolean readFrom(Text text) {
            if (!text.isWord("part")) {
                return text.refuse(Text.CANNOT_STAND);
            }
            for (int i = 0; i <= MOST_PARTS && text.isWord("part"); i++) {
                if (!readPart(text)) {
                    return false;
                }
            }
            for (int i = 0; i <= MOST_CLAUSES && text.kind != Text.END; i++) {
                if (!readClause(text)) {
                    return false;
                }
            }
            return true;
        }

        int partNamed(long name) {
            return indexOf(partNames, partCount, name);
        }

        int faultNamed(long name) {
            return indexOf(faultNames, faultCount, name);
        }

        private boolean readPart(Text text) {
            if (partCount >= MOST_PARTS) {
                return text.refuse(Text.TOO_MUCH);
            }
            text.step();
            if (!isNewName(text, partNames, partCount)) {
                return false;
            }
            partNames[partCount] = text.name();
            text.step();
            int points = text.takeNumber(1, MOST_POINTS);
            partPoints[partCount] = points;
            partCount++;
            return points != NONE && text.takeSign(';');
        }

        private boolean readClause(Text text) {
            int which = text.among(CLAUSES);
            if (which == NONE) {
                return text.refuse(Text.CANNOT_STAND);
            }
            if (clauseCount >= MOST_CLAUSES || which == 0 && faultCount >= MOST_FAULTS) {
                return text.refuse(Text.TOO_MUCH);
            }
            clauseCount++;
            text.step();
            switch (which) {
                case 0:
                    return readFaultName(text) && addFault(formulas.read(text)) && text.takeSign(';');
                case 1:
                    return addOut(formulas.read(text)) && text.takeSign(';');
                case 2:
                    return readTies(text) && text.takeSign(';');
                case 3:
                    best = text.takeNumber(1, MOST_BEST);
                    return best != NONE && text.takeSign(';');
                default:
                    limit = text.takeNumber(1, MOST_LIMIT);
                    return limit != NONE && text.takeSign(';');
            }
        }

        private boolean readFaultName(Text text) {
            if (!isNewName(text, faultNames, faultCount)) {
                return false;
            }
            faultNames[faultCount] = text.name();
            text.step();
            return text.takeWord("off");
        }

        private boolean addFault(int formula) {
            faultFormula[faultCount] = formula;
            faultCount++;
            return formula != NONE;
        }

        private boolean addOut(int formula) {
            outFormula[outCount] = formula;
            outCount++;
            return formula != NONE;
        }

        private boolean readTies(Text text) {
            tieCount = 0;
            if (!readTie(text)) {
                return false;
            }
            for (int i = 0; i < MOST_TIES && text.isSign(','); i++) {
                text.step();
                if (!readTie(text)) {
                    return false;
                }
            }
            return true;
        }

        private boolean readTie(Text text) {
            boolean isTime = text.isWord("time");
            if (!isTime && !text.isNoKeyword()) {
                return text.refuse(Text.CANNOT_STAND);
            }
            if (tieCount >= MOST_TIES || text.isTooLongForName()) {
                return text.refuse(Text.TOO_MUCH);
            }
            int key = isTime ? TIE_BY_TIME : partNamed(text.name());
            if (key == NONE) {
                return text.refuse(Text.NOT_KNOWN);
            }
            for (int i = 0; i < tieCount; i++) {
                if (ties[i] == key) {
                    return text.refuse(Text.TOLD_ALREADY);
                }
            }
            ties[tieCount] = key;
            tieCount++;
            text.step();
            return true;
        }

        private static boolean isNewName(Text text, long[] names, int count) {
            if (!text.isNoKeyword()) {
                return text.refuse(Text.CANNOT_STAND);
            }
            if (text.isTooLongForName()) {
                return text.refuse(Text.TOO_MUCH);
            }
            return indexOf(names, count, text.name()) == NONE || text.refuse(Text.TOLD_ALREADY);
        }

        private static int indexOf(long[] names, int count, long name) {
            for (int i = 0; i < count && i < names.length; i++) {
                if (names[i] == name) {
                    return i;
                }
            }
            return NONE;
        }
    }

    /** A CARD as it was told, with all that its RULES make of it before PROTESTS. */
    private static final class Card {
        static final int MOST_FAULTS = 40;

        int day;
        int time;
        int total;
        boolean isOut;
        int faultCount;
        final int[] takenOff = new int[MOST_FAULTS];
        final int[] points = new int[RuleBook.MOST_PARTS];
        /** The CARD of the same RUN that was told ahead of this one, or null. */
        Card earlier;
    }

    /** Reads CARDS. RULES, HOUR and WIND of a RUN never change, so POINTS are led as the text is read. */
    private static final class CardReader {
        private Text text;
        private RuleBook book;
        private Run run;
        private Card card;
        private int left;
        private final int[] timesInPart = new int[RuleBook.MOST_FAULTS];

        /** Null: the text has a FAULT. */
        Card read(Text from, RuleBook by, Run of) {
            text = from;
            book = by;
            run = of;
            card = new Card();
            tellRun(book.formulas);
            boolean isRetired = false;
            if (!readRows()) {
                return null;
            }
            if (text.isWord("time")) {
                text.step();
                card.time = text.takeNumber(0, Text.MOST_NUMBER);
                if (card.time == NONE || !text.takeSign(';')) {
                    return null;
                }
            }
            if (text.isWord("retired")) {
                isRetired = true;
                text.step();
                if (!text.takeSign(';')) {
                    return null;
                }
            }
            if (text.kind != Text.END) {
                text.refuse(Text.CANNOT_STAND);
                return null;
            }
            card.isOut = isRetired || isAboveLimit() || isOutByRules();
            return card;
        }

        private boolean readRows() {
            int last = NONE;
            for (int i = 0; i <= RuleBook.MOST_PARTS && text.isNoKeyword(); i++) {
                int part = partBehind(last);
                if (part == NONE || !readRow(part)) {
                    return false;
                }
                last = part;
            }
            return true;
        }

        private int partBehind(int last) {
            if (text.isTooLongForName()) {
                text.refuse(Text.TOO_MUCH);
                return NONE;
            }
            int part = book.partNamed(text.name());
            if (part <= last) {
                text.refuse(part == NONE ? Text.NOT_KNOWN : Text.TOLD_ALREADY);
                return NONE;
            }
            text.step();
            return part;
        }

        private boolean readRow(int part) {
            left = book.partPoints[part];
            Arrays.fill(timesInPart, 0);
            for (int i = 0; i <= Card.MOST_FAULTS && text.isNoKeyword(); i++) {
                if (!readFault()) {
                    return false;
                }
            }
            card.points[part] = left;
            card.total += left;
            return text.takeSign(';');
        }

        private boolean readFault() {
            if (card.faultCount >= Card.MOST_FAULTS || text.isTooLongForName()) {
                return text.refuse(Text.TOO_MUCH);
            }
            int which = book.faultNamed(text.name());
            if (which == NONE) {
                return text.refuse(Text.NOT_KNOWN);
            }
            text.step();
            int n = 1;
            if (text.kind == Text.NUMBER) {
                n = text.takeNumber(0, Text.MOST_NUMBER);
                if (n == NONE) {
                    return false;
                }
            }
            takeOff(which, n);
            return true;
        }

        private void takeOff(int which, int n) {
            timesInPart[which]++;
            Formulas formulas = book.formulas;
            formulas.values[Formulas.N] = n;
            formulas.values[Formulas.NTH] = timesInPart[which];
            formulas.values[Formulas.LEFT] = left;
            int off = Math.min(left, Math.max(0, formulas.valueAt(book.faultFormula[which])));
            left -= off;
            card.takenOff[card.faultCount] = off;
            card.faultCount++;
        }

        private boolean isAboveLimit() {
            return book.limit != NONE && card.time > book.limit;
        }

        private boolean isOutByRules() {
            Formulas formulas = book.formulas;
            tellRun(formulas);
            formulas.values[Formulas.TOTAL] = card.total;
            formulas.values[Formulas.TIME] = card.time;
            for (int i = 0; i < book.outCount; i++) {
                if (formulas.valueAt(book.outFormula[i]) != 0) {
                    return true;
                }
            }
            return false;
        }

        private void tellRun(Formulas formulas) {
            formulas.clearValues();
            formulas.values[Formulas.HOUR] = run.hour;
            formulas.values[Formulas.WIND] = run.wind;
        }
    }

    private static final class Run {
        final int trial;
        final int dog;
        final int hour;
        final int wind;
        /** The CARD that was told last, or null. */
        Card lastCard;

        Run(int trial, int dog, int hour, int wind) {
            this.trial = trial;
            this.dog = dog;
            this.hour = hour;
            this.wind = wind;
        }
    }

    /** TRIALS, RUNS and PROTESTS, and what is known of them on a DAY. */
    private static final class Season {
        static final int MOST_TRIALS = 20;
        static final int MOST_RUNS = 120;
        static final int MOST_CARDS = 200;
        static final int MOST_PROTESTS = 40;
        static final int HOURS = 24;
        private static final int WINDS = 10;
        private static final int NO_LUCK = -1000000;

        private static final int VOID = 1;
        private static final int OUT = 2;
        private static final int ADDED = 3;
        private static final int MOST_ADDED = 50;

        int trialCount;
        final RuleBook[] trialBooks = new RuleBook[MOST_TRIALS];
        final int[] trialDays = new int[MOST_TRIALS];
        final int[] trialJudges = new int[MOST_TRIALS];
        int runCount;
        final Run[] runs = new Run[MOST_RUNS];
        int cardCount;
        int protestCount;
        private final int[] protestRuns = new int[MOST_PROTESTS];
        private final int[] protestDays = new int[MOST_PROTESTS];
        private final int[] protestHows = new int[MOST_PROTESTS];
        private final int[] protestPoints = new int[MOST_PROTESTS];

        int addTrial(RuleBook book, int day, int judge) {
            if (trialCount >= MOST_TRIALS) {
                return NONE;
            }
            trialBooks[trialCount] = book;
            trialDays[trialCount] = day;
            trialJudges[trialCount] = judge;
            trialCount++;
            return trialCount - 1;
        }

        int addRun(int trial, int dog, int hour, int wind) {
            boolean fits = hour >= 0 && hour < HOURS && wind >= 0 && wind < WINDS;
            if (runCount >= MOST_RUNS || !fits) {
                return NONE;
            }
            runs[runCount] = new Run(trial, dog, hour, wind);
            runCount++;
            return runCount - 1;
        }

        void addCard(int run, Card card, int today) {
            card.day = today;
            card.earlier = runs[run].lastCard;
            runs[run].lastCard = card;
            cardCount++;
        }

        int addProtest(int run, int today) {
            if (protestCount >= MOST_PROTESTS || cardOn(run, today) == null) {
                return NONE;
            }
            protestRuns[protestCount] = run;
            protestDays[protestCount] = NONE;
            protestCount++;
            return protestCount - 1;
        }

        boolean settle(int protest, int how, int points, int today) {
            int most = how == ADDED ? MOST_ADDED : 0;
            boolean fits = how >= 0 && how <= ADDED && points >= -most && points <= most;
            if (protestDays[protest] != NONE || !fits) {
                return false;
            }
            protestDays[protest] = today;
            protestHows[protest] = how;
            protestPoints[protest] = points;
            return true;
        }

        RuleBook bookOf(int run) {
            return trialBooks[runs[run].trial];
        }

        /** Null: the RUN isn't known. */
        Card cardOn(int run, int k) {
            for (Card card = runs[run].lastCard; card != null; card = card.earlier) {
                if (card.day <= k) {
                    return card;
                }
            }
            return null;
        }

        /** NONE: the RUN isn't known. */
        int totalOf(int run, int k) {
            Card card = cardOn(run, k);
            if (card == null) {
                return NONE;
            }
            int total = card.total;
            for (int i = 0; i < protestCount; i++) {
                if (isDecided(i, run, k)) {
                    total += protestPoints[i];
                }
            }
            return Math.max(0, total);
        }

        boolean isOut(int run, int k) {
            Card card = cardOn(run, k);
            return card != null && (card.isOut || isMade(OUT, run, k));
        }

        boolean isCounted(int run, int k) {
            return cardOn(run, k) != null && !isMade(VOID, run, k) && !isOut(run, k);
        }

        /** NONE: the RUN doesn't count. */
        int placeOf(int run, int k) {
            if (!isCounted(run, k)) {
                return NONE;
            }
            int place = 1;
            for (int i = 0; i < runCount; i++) {
                if (runs[i].trial == runs[run].trial && isCounted(i, k) && isAhead(i, run, k)) {
                    place++;
                }
            }
            return place;
        }

        int luckOf(int trial, int hour, int k) {
            long sumThen = 0;
            long countThen = 0;
            long sum = 0;
            long count = 0;
            for (int i = 0; i < runCount; i++) {
                if (runs[i].trial == trial && isCounted(i, k)) {
                    int total = totalOf(i, k);
                    sum += total;
                    count++;
                    if (runs[i].hour == hour) {
                        sumThen += total;
                        countThen++;
                    }
                }
            }
            if (countThen == 0 || count == 0) {
                return NO_LUCK;
            }
            return (int) Math.floorDiv(1000 * (sumThen * count - sum * countThen), countThen * count);
        }

        private boolean isAhead(int one, int other, int k) {
            Card card = cardOn(one, k);
            Card otherCard = cardOn(other, k);
            if (card == null || otherCard == null) {
                return false;
            }
            RuleBook book = bookOf(one);
            int more = totalOf(one, k) - totalOf(other, k);
            for (int i = 0; more == 0 && i < book.tieCount; i++) {
                int key = book.ties[i];
                if (key == RuleBook.TIE_BY_TIME) {
                    more = otherCard.time - card.time;
                } else {
                    more = card.points[key] - otherCard.points[key];
                }
            }
            return more > 0;
        }

        private boolean isMade(int how, int run, int k) {
            for (int i = 0; i < protestCount; i++) {
                if (protestHows[i] == how && isDecided(i, run, k)) {
                    return true;
                }
            }
            return false;
        }

        private boolean isDecided(int protest, int run, int k) {
            int day = protestDays[protest];
            return protestRuns[protest] == run && day != NONE && day <= k;
        }
    }

    private static final class Ladder {
        /** NONE: the DOG isn't in it. */
        final int[] sums = new int[Kennel.MOST_DOGS];
        private final int[] greatest = new int[Kennel.MOST_DOGS];
        private final int[] top = new int[RuleBook.MOST_BEST];
        private int topCount;

        void reckon(Season season, int a, int b, int k, int best) {
            for (int dog = 0; dog < Kennel.MOST_DOGS; dog++) {
                topCount = 0;
                for (int i = 0; i < season.runCount; i++) {
                    Run run = season.runs[i];
                    int day = season.trialDays[run.trial];
                    if (run.dog == dog && day >= a && day <= b && season.isCounted(i, k)) {
                        keep(season.totalOf(i, k), best);
                    }
                }
                sumUp(dog);
            }
        }

        int size() {
            int size = 0;
            for (int dog = 0; dog < Kennel.MOST_DOGS; dog++) {
                if (sums[dog] != NONE) {
                    size++;
                }
            }
            return size;
        }

        /** NONE: there is none. */
        int dogAt(int place) {
            for (int dog = 0; dog < Kennel.MOST_DOGS; dog++) {
                if (sums[dog] != NONE && countAhead(dog) == place) {
                    return dog;
                }
            }
            return NONE;
        }

        /** The row of the greatest stays in order, so that the least of it is what falls out. */
        private void keep(int total, int best) {
            int i = topCount;
            if (topCount < best && topCount < RuleBook.MOST_BEST) {
                topCount++;
            } else {
                i--;
                if (i < 0 || top[i] >= total) {
                    return;
                }
            }
            for (; i > 0 && top[i - 1] < total; i--) {
                top[i] = top[i - 1];
            }
            top[i] = total;
        }

        private void sumUp(int dog) {
            sums[dog] = topCount == 0 ? NONE : 0;
            greatest[dog] = topCount == 0 ? NONE : top[0];
            for (int i = 0; i < topCount; i++) {
                sums[dog] += top[i];
            }
        }

        private int countAhead(int dog) {
            int ahead = 0;
            for (int other = 0; other < Kennel.MOST_DOGS; other++) {
                if (isAhead(other, dog)) {
                    ahead++;
                }
            }
            return ahead;
        }

        /** One that isn't in the LADDER has the sum NONE, and so is never ahead of one that is. */
        private boolean isAhead(int one, int other) {
            if (sums[one] != sums[other]) {
                return sums[one] > sums[other];
            }
            if (greatest[one] != greatest[other]) {
                return greatest[one] > greatest[other];
            }
            return one < other;
        }
    }

    private static final class Scales {
        /** The least number of a JUDGE of each JUDGE's GROUP. */
        final int[] group = new int[MOST_JUDGES];
        private final int[][] firstTotals = new int[Kennel.MOST_DOGS][MOST_JUDGES];
        private final int[][] pairs = new int[MOST_JUDGES][MOST_JUDGES];
        private final int[] aheadInAll = new int[MOST_JUDGES];
        private final int[] members = new int[MOST_JUDGES];
        private int memberCount;

        void reckon(Season season, int k) {
            clear();
            for (int i = 0; i < season.runCount; i++) {
                Run run = season.runs[i];
                int judge = season.trialJudges[run.trial];
                if (firstTotals[run.dog][judge] == NONE && season.isCounted(i, k)) {
                    firstTotals[run.dog][judge] = season.totalOf(i, k);
                }
            }
            for (int dog = 0; dog < Kennel.MOST_DOGS; dog++) {
                pairUp(firstTotals[dog]);
            }
        }

        int metOf(int judge) {
            int met = 0;
            for (int other = 0; other < MOST_JUDGES; other++) {
                met += pairs[judge][other];
            }
            return met;
        }

        /*
         * The sum of squares is least where for each JUDGE a of the GROUP: MET(a) s(a) less the sum of pairs(a, b) s(b)
         * is the sum of a's TOTALS less the others'. With the sum of all s (which is 0) added to each row these are as
         * many equations as JUDGES, with one answer, and each s is a quotient of two determinants. Nothing is rounded:
         * a determinant has at most 36 * 6^4 * 24^5 parts, an s is below 14,000, so 1000 times their product is below
         * 2^63, and where a sum on the way wraps, the last one is right all the same.
         */
        long scaleOf(int judge) {
            memberCount = 0;
            int column = 0;
            for (int other = 0; other < MOST_JUDGES; other++) {
                if (group[other] == group[judge]) {
                    if (other == judge) {
                        column = memberCount;
                    }
                    members[memberCount] = other;
                    memberCount++;
                }
            }
            long whole = determinant(0, 0, NONE);
            return whole == 0 ? 0 : Math.floorDiv(1000 * determinant(0, 0, column), whole);
        }

        private void clear() {
            for (int dog = 0; dog < Kennel.MOST_DOGS; dog++) {
                Arrays.fill(firstTotals[dog], NONE);
            }
            for (int judge = 0; judge < MOST_JUDGES; judge++) {
                Arrays.fill(pairs[judge], 0);
                aheadInAll[judge] = 0;
                group[judge] = judge;
            }
        }

        private void pairUp(int[] totals) {
            for (int a = 0; a < MOST_JUDGES; a++) {
                for (int b = 0; b < MOST_JUDGES; b++) {
                    if (a != b && totals[a] != NONE && totals[b] != NONE) {
                        pairs[a][b]++;
                        aheadInAll[a] += totals[a] - totals[b];
                        join(group[a], group[b]);
                    }
                }
            }
        }

        private void join(int one, int other) {
            int least = Math.min(one, other);
            int greatest = Math.max(one, other);
            for (int judge = 0; judge < MOST_JUDGES; judge++) {
                if (group[judge] == greatest) {
                    group[judge] = least;
                }
            }
        }

        /** Of the rows from this one on, without the columns that are used; one column is the right side instead. */
        private long determinant(int row, int used, int rightSide) {
            if (row >= memberCount) {
                return 1;
            }
            long sum = 0;
            long sign = 1;
            for (int column = 0; column < memberCount; column++) {
                if ((used >> column & 1) == 0) {
                    long entry = column == rightSide ? aheadInAll[members[row]] : coefficient(row, column);
                    if (entry != 0) {
                        sum += sign * entry * determinant(row + 1, used | 1 << column, rightSide);
                    }
                    sign = -sign;
                }
            }
            return sum;
        }

        private long coefficient(int row, int column) {
            int judge = members[row];
            return row == column ? 1 + metOf(judge) : 1 - pairs[judge][members[column]];
        }
    }

    /** The list of DOGS, and THE DRAW that is kept. */
    private static final class Draw {
        static final int MOST_DOGS = 8;

        int entered;
        int keptCount;
        final int[] kept = new int[MOST_DOGS];
        private final int[] listed = new int[MOST_DOGS];
        private final int[] row = new int[MOST_DOGS];
        private final int[] order = new int[MOST_DOGS];
        private final int[] handlerAt = new int[MOST_DOGS];
        private final int[] open = new int[Kennel.HANDLERS];
        private final int[] nextPlace = new int[Kennel.HANDLERS];
        private int apart;

        void clear() {
            entered = 0;
        }

        int enter(int dog) {
            for (int i = 0; i < entered; i++) {
                if (listed[i] == dog) {
                    return NONE;
                }
            }
            if (entered >= MOST_DOGS) {
                return NONE;
            }
            listed[entered] = dog;
            entered++;
            return entered;
        }

        int make(long seed, int g, Kennel kennel) {
            apart = g;
            shuffle(seed);
            Arrays.fill(open, 0);
            Arrays.fill(nextPlace, 0);
            for (int i = 0; i < entered; i++) {
                handlerAt[i] = kennel.handlers[row[i]];
                open[handlerAt[i]]++;
            }
            if (entered == 0 || !canFill(0, 0)) {
                return NONE;
            }
            keptCount = entered;
            for (int i = 0; i < entered; i++) {
                kept[i] = row[order[i]];
            }
            return kept[0];
        }

        private void shuffle(long seed) {
            System.arraycopy(listed, 0, row, 0, MOST_DOGS);
            long next = seed;
            for (int i = entered - 1; i >= 1; i--) {
                next = next * 6364136223846793005L + 1442695040888963407L;
                int j = (int) ((next >>> 33) % (i + 1));
                int moved = row[i];
                row[i] = row[j];
                row[j] = moved;
            }
        }

        /** Fills the places from this one on with the first order there is; DOGS of one HANDLER fit alike or not at all. */
        private boolean canFill(int place, int used) {
            if (place >= entered) {
                return true;
            }
            if (!isRoomLeft(place)) {
                return false;
            }
            int tried = 0;
            for (int i = 0; i < entered; i++) {
                int handler = handlerAt[i];
                boolean isFree = (used >> i & 1) == 0 && (tried >> handler & 1) == 0;
                if (isFree && nextPlace[handler] <= place) {
                    tried |= 1 << handler;
                    int before = nextPlace[handler];
                    order[place] = i;
                    open[handler]--;
                    nextPlace[handler] = place + apart;
                    if (canFill(place + 1, used | 1 << i)) {
                        return true;
                    }
                    open[handler]++;
                    nextPlace[handler] = before;
                }
            }
            return false;
        }

        /** Leaves early what can't end well: else eight DOGS of which two are never far enough apart take long. */
        private boolean isRoomLeft(int place) {
            for (int handler = 0; handler < Kennel.HANDLERS; handler++) {
                int last = Math.max(place, nextPlace[handler]) + (open[handler] - 1) * apart;
                if (open[handler] > 0 && last >= entered) {
                    return false;
                }
            }
            return true;
        }
    }
}
