/** Boundary cases of promises 6 (feed), 7 (rules: the tape, how many there are), 8 (fault), of TEXTS and their TOKENS. */
final class TextEdgesTest {
    private static final int NONE = DogTrials.NONE;
    private static final int CANNOT_STAND = Texts.CANNOT_STAND;
    private static final int TOO_MUCH = Texts.TOO_MUCH;

    public static void main(String[] args) {
        highestFirst();
        howMany();
        noneCome();
        textOf600();
        lastByteOf600();
        firstBytes();
        emptyTape();
        rulesOfNoBytes();
        tapeHasNotSoMany();
        below0();
        mostRules();
        fullTapeOfRules();
        faultWithout();
        latestFault();
        blanks();
        noTokens();
        signs();
        words();
        numbers();
        textsLength();
        Check.end();
    }

    private static void feedBlank(DogTrials x) {
        x.feed(0x20202020, 0x20202020, 0x20202020, 0x20202020, 0x20202020);
    }

    private static void highestFirst() {
        Check.sentence("Twenty bytes come behind the tape, of each number the highest first");
        DogTrials x = new DogTrials();
        x.feed(0x70617274, 0x20616263, 0x64656667, 0x68203020, 0x203b3b3b);
        Check.due("part abcdefgh 0", x.rules(20), -1 - TOO_MUCH);
        Check.due("the place of 0", x.fault(), 14);
        x.feed(0x70617274, 0x20616263, 0x64656667, 0x68203939, 0x3b626573);
        x.feed(0x74203230, 0x3b20fe20, 0, 0, 0);
        Check.due("a byte above 127 in the second twenty", x.rules(40), -1 - CANNOT_STAND);
        Check.due("its place", x.fault(), 26);
        x.feed(0x70617274, 0x20616263, 0x64656667, 0x68203939, 0x3b626573);
        x.feed(0x74203230, 0x3b20fe20, 0, 0, 0);
        Check.due("the same without it", x.rules(26), 0);
        for (int place = 0; place < 20; place++) {
            int[] numbers = {0x20202020, 0x20202020, 0x20202020, 0x20202020, 0x20202020};
            numbers[place / 4] = Integer.MIN_VALUE >>> 8 * (place % 4) | 0x20202020 & ~(0xff << 24 - 8 * (place % 4));
            x.feed(numbers[0], numbers[1], numbers[2], numbers[3], numbers[4]);
            Check.due("a byte 128", x.rules(20), -1 - CANNOT_STAND);
            Check.due("its place", x.fault(), place);
        }
    }

    private static void howMany() {
        Check.sentence("feed: how many it has");
        DogTrials x = new DogTrials();
        for (int i = 1; i <= 30; i++) {
            Check.due("feed " + i, x.feed(0, 0, 0, 0, 0), 20 * i);
            Check.due("bytes of the tape", x.count(10), 20 * i);
        }
    }

    private static void noneCome() {
        Check.sentence("NONE, and none come, if it would have more than 600");
        DogTrials x = new DogTrials();
        Check.feed(x, "part a 1;" + "best 1; ".repeat(19) + " ".repeat(439));
        Check.due("600 bytes", x.count(10), 600);
        Check.none(x, "the 31st feed", () -> x.feed(-1, -1, -1, -1, -1));
        Check.none(x, "once more", () -> x.feed(0, 0, 0, 0, 0));
        Check.due("the text as it was", x.rules(600), 0);
        Check.due("bytes come again", x.feed(-1, -1, -1, -1, -1), 20);
    }

    private static void textOf600() {
        Check.sentence("TEXTS, at most 600 bytes");
        String longest = "part a 1;out 1" + "+1".repeat(292) + " ;";
        Check.due("bytes", longest.length(), 600);
        Texts.rulesTaken(longest);
        Texts.rulesRefused("part a 1;out 1" + "+1".repeat(292) + " ^!", CANNOT_STAND);
        Texts.rulesRefused("part a 1;out 1" + "+1".repeat(292) + "  ^", CANNOT_STAND);
        Texts.cardTaken("part a 9;fault f off 1;", "a" + " ".repeat(596) + "f ;", 8, 1);
        Texts.cardRefused("part a 9;fault f off 1;", "a" + " ".repeat(596) + "f ^!", CANNOT_STAND);
    }

    private static void lastByteOf600() {
        Check.sentence("TEXTS, at most 600 bytes: what ends with the last of them");
        String head = "part a 9;fault f off 1;" + " ".repeat(560);
        for (String word : Texts.KEYWORDS) {
            for (int length = 1; length <= word.length(); length++) {
                String end = " ".repeat(17 - length) + "^" + word.substring(0, length);
                boolean begins = Texts.isIn(new String[] {"fault", "out", "tie", "best", "limit"}, word.substring(0, length));
                if (!begins) {
                    Texts.rulesRefused(head + end, CANNOT_STAND);
                } else {
                    Texts.rulesRefused(head + end.replace("^", "") + "^", CANNOT_STAND);
                }
            }
        }
        Texts.rulesRefused("part a 9;" + " ".repeat(584) + "limit 9^", CANNOT_STAND);
        Texts.rulesRefused("part a 9;out" + " ".repeat(582) + "^123456", TOO_MUCH);
        Texts.rulesRefused("part a 9;out" + " ".repeat(583) + "12345^", CANNOT_STAND);
        Texts.rulesRefused("part a 9;out" + " ".repeat(584) + "^limi", Texts.NOT_KNOWN);
        Texts.rulesRefused("part a 9;out" + " ".repeat(584) + "hour^", CANNOT_STAND);
        Texts.rulesRefused("part a 9;out" + " ".repeat(587) + "(^", CANNOT_STAND);
        Texts.cardRefused("part a 9;", " ".repeat(597) + "^tim", Texts.NOT_KNOWN);
        Texts.cardRefused("part a 9;", " ".repeat(596) + "time^", CANNOT_STAND);
        Texts.cardRefused("part a 9;", " ".repeat(599) + "a^", CANNOT_STAND);
        Texts.cardTaken("part a 9;", " ".repeat(598) + "a;", 9, 0);
        Texts.cardTaken("part a 9;", "a;" + " ".repeat(590) + "retired;", 9, 0);
    }

    private static void firstBytes() {
        Check.sentence("The tape's first n bytes are RULES");
        DogTrials x = new DogTrials();
        Check.feed(x, "part a 1; best 1; x");
        Check.due("the last byte isn't there", x.rules(8), -1 - CANNOT_STAND);
        Check.due("at the text's length", x.fault(), 8);
        Check.feed(x, "part a 1; best 1; x");
        Check.due("to the sign", x.rules(9), 0);
        Check.feed(x, "part a 1; best 1; x");
        Check.due("to a blank", x.rules(10), 1);
        Check.feed(x, "part a 1; best 1; x");
        Check.due("to another sign", x.rules(17), 2);
        Check.feed(x, "part a 1; best 1; x");
        Check.due("to a word", x.rules(19), -1 - CANNOT_STAND);
        Check.due("at the word", x.fault(), 18);
        Check.feed(x, "part a 12;");
        Check.due("a NUMBER that is cut", x.rules(8), -1 - CANNOT_STAND);
        Check.due("at the text's length", x.fault(), 8);
        Check.feed(x, "part a 12;");
        Check.due("a word that is cut", x.rules(3), -1 - CANNOT_STAND);
        Check.due("at the word", x.fault(), 0);
    }

    private static void emptyTape() {
        Check.sentence("(it is empty then)");
        DogTrials x = new DogTrials();
        Check.feed(x, "part a 1;best 1;part b 1;");
        Check.due("of 40 bytes the first 9", x.rules(9), 0);
        Check.due("all are gone", x.count(10), 0);
        Check.illegalArgument(x, "rules(1)", () -> x.rules(1));
        Check.due("the first of new ones", x.feed(0x70617274, 0x20622031, 0x3b202020, 0x20202020, 0x20202020), 20);
        Check.illegalArgument(x, "rules(21)", () -> x.rules(21));
        Check.due("new ones alone", x.rules(20), 1);
        Check.feed(x, "part a 0;best 1;part b 1;");
        Check.due("a FAULT", x.rules(9), -1 - TOO_MUCH);
        Check.due("all are gone with a FAULT", x.count(10), 0);
        Check.illegalArgument(x, "rules(1) behind a FAULT", () -> x.rules(1));
    }

    private static void rulesOfNoBytes() {
        Check.sentence("rules(0): the tape's first 0 bytes");
        DogTrials x = new DogTrials();
        Check.due("of an empty tape", x.rules(0), -1 - CANNOT_STAND);
        Check.due("at the text's length", x.fault(), 0);
        Check.feed(x, "part a 1;");
        Check.due("of one that has bytes", x.rules(0), -1 - CANNOT_STAND);
        Check.due("at the text's length", x.fault(), 0);
        Check.due("which are gone", x.count(10), 0);
        Check.due("RULES", x.count(4), 0);
    }

    private static void tapeHasNotSoMany() {
        Check.sentence("rules: IllegalArgumentException: the tape has not so many (nothing changes)");
        DogTrials x = new DogTrials();
        Check.illegalArgument(x, "rules(1) of an empty tape", () -> x.rules(1));
        Check.feed(x, "part a 1;           ");
        for (int n : new int[] {21, 600, 601, Integer.MAX_VALUE}) {
            Check.illegalArgument(x, "rules(" + n + ")", () -> x.rules(n));
        }
        Check.due("all of them", x.rules(20), 0);
        for (int i = 0; i < 30; i++) {
            feedBlank(x);
        }
        Check.illegalArgument(x, "rules(601) of 600", () -> x.rules(601));
        Check.due("all 600", x.rules(600), -1 - CANNOT_STAND);
        Check.due("at the text's length", x.fault(), 600);
    }

    private static void below0() {
        Check.sentence("rules: IllegalArgumentException: n below 0 (nothing changes)");
        DogTrials x = new DogTrials();
        Check.illegalArgument(x, "rules(-1) of an empty tape", () -> x.rules(-1));
        Check.feed(x, "part a 1;");
        Check.illegalArgument(x, "rules(-1)", () -> x.rules(-1));
        Check.illegalArgument(x, "rules(-2^31)", () -> x.rules(Integer.MIN_VALUE));
        Check.due("the tape as it was", x.rules(9), 0);
    }

    private static void mostRules() {
        Check.sentence("RULES (numbered from 0 on, at most 6); -9: there are 6 (the tape is empty then, too; no FAULT)");
        DogTrials x = new DogTrials();
        for (int i = 0; i < 6; i++) {
            Check.due("a FAULT takes no number", Check.rules(x, "part a 100;"), -1 - TOO_MUCH);
            Check.due("rules", Check.rules(x, "part a 1;best " + (i + 1) + ";"), i);
            Check.due("RULES", x.count(4), i + 1);
        }
        Check.feed(x, "part a 1;best 20;");
        Check.due("the 7th", x.rules(17), -9);
        Check.due("the tape is empty", x.count(10), 0);
        Check.due("no FAULT", x.fault(), NONE);
        Check.due("RULES", x.count(4), 6);
        Check.feed(x, "part a 0;");
        Check.due("the 7th with a FAULT", x.rules(9), -9);
        Check.due("the tape is empty", x.count(10), 0);
        Check.due("no FAULT", x.fault(), NONE);
        Check.due("the 7th without a byte", x.rules(0), -9);
        Check.due("no FAULT", x.fault(), NONE);
        x.comes(0);
        Check.due("RULES 5 are there", x.trial(5, 0, 0), 0);
        Check.noSuchElement(x, "RULES 6 aren't", () -> x.trial(6, 0, 0));
    }

    private static void fullTapeOfRules() {
        Check.sentence("rules with 6 there: IllegalArgumentException: the tape has not so many, n below 0 (nothing changes)");
        DogTrials x = new DogTrials();
        for (int i = 0; i < 6; i++) {
            Check.rules(x, "part a 1;");
        }
        Check.due("a FAULT of the latest", x.fault(), NONE);
        Check.feed(x, "part a 1;");
        Check.illegalArgument(x, "rules(21)", () -> x.rules(21));
        Check.illegalArgument(x, "rules(-1)", () -> x.rules(-1));
        Check.due("there are 6", x.rules(20), -9);
    }

    private static void faultWithout() {
        Check.sentence("fault: NONE without");
        DogTrials x = Check.trial("part a 1;", 1);
        Check.due("of good RULES", x.fault(), NONE);
        Check.due("a FAULT", Check.rules(x, "part a 1;x"), -1 - CANNOT_STAND);
        Check.due("its place", x.fault(), 9);
        Check.due("good RULES", Check.rules(x, "part a 1;"), 1);
        Check.due("no FAULT any more", x.fault(), NONE);
        Check.due("a CARD's FAULT", Check.card(x, 0, "a;x"), 3);
        Check.due("its place", x.fault(), 2);
        Check.due("a good CARD", Check.card(x, 0, "a;"), 0);
        Check.due("no FAULT any more", x.fault(), NONE);
        DogTrials y = new DogTrials();
        Check.due("of a new object", y.fault(), NONE);
    }

    private static void latestFault() {
        Check.sentence("The place of the latest rules()'s or card()'s FAULT");
        DogTrials x = Check.trial("part a 1;", 1);
        Check.due("a FAULT of RULES", Check.rules(x, "part a 1;x"), -1 - CANNOT_STAND);
        Check.feed(x, "a;x");
        Check.illegalArgument(x, "rules that throws leaves it", () -> x.rules(21));
        Check.illegalArgument(x, "card that throws leaves it", () -> x.card(0, 21));
        Check.noSuchElement(x, "a RUN that isn't there leaves it", () -> x.card(1, 3));
        Check.due("its place", x.fault(), 9);
        Check.due("a FAULT of a CARD", x.card(0, 3), 3);
        Check.due("its place", x.fault(), 2);
        Check.due("RULES without a byte", x.rules(0), -2);
        Check.due("the latest is theirs", x.fault(), 0);
        Check.due("a FAULT at the end of a CARD", Check.card(x, 0, "a"), 1);
        Check.due("its place", x.fault(), 1);
    }

    private static void blanks() {
        Check.sentence("blanks (32, 10) between them count for nothing");
        Texts.rulesTaken("\n\n  part\n \na  1\n;\n fault\nf\noff\n1\n+\n2\n;tie\na\n,\ntime\n;\n ");
        Texts.rulesTaken("part a1;fault f off(1)+(2)or not(n);tie a,time;best1;limit1;out1;");
        Texts.cardTaken("part a 9;fault f off n;", "\n a\nf\n2\n;\ntime\n5\n;\nretired\n;\n", 7, 1);
        Texts.cardTaken("part a 9;fault f off n;", "a f2f3;time5;retired;", 4, 2);
        for (int blank : new int[] {32, 10}) {
            Texts.rulesTaken("part a 1;" + (char) blank + "best 1;");
        }
        for (int none : new int[] {0, 9, 11, 12, 13, 31, 33, 127, 128, 160, 255}) {
            Texts.rulesRefused("part a 1;^" + (char) none + "best 1;", CANNOT_STAND);
            Texts.cardRefused("part a 1;", "a;^" + (char) none + "time 5;", CANNOT_STAND);
        }
    }

    private static void noTokens() {
        Check.sentence("1 a TOKEN that can't stand there, or is none: each byte alone ahead of a CLAUSE");
        for (int b = 0; b < 256; b++) {
            if (b == 32 || b == 10) {
                Texts.rulesTaken("part a 1;" + (char) b);
            } else if (b != '^') {
                Texts.rulesRefused("part a 1;^" + (char) b, CANNOT_STAND);
            }
        }
        DogTrials x = new DogTrials();
        Check.due("the byte 94", Check.rules(x, "part a 1;^"), -1 - CANNOT_STAND);
        Check.due("its place", x.fault(), 9);
    }

    private static void signs() {
        Check.sentence("signs ; , ( ) + - * / < =: each byte between two NUMBERS of an EXPR");
        for (int b = 0; b < 256; b++) {
            char c = (char) b;
            if ("+-*/<=".indexOf(c) >= 0 || c >= '0' && c <= '9') {
                Texts.rulesTaken("part a 1;out 1" + c + "1;");
            } else if (c == ' ' || c == '\n') {
                Texts.rulesRefused("part a 1;out 1" + c + "^1;", CANNOT_STAND);
            } else if (c == ';') {
                Texts.rulesRefused("part a 1;out 1;^1;", CANNOT_STAND);
            } else if (c != '^') {
                Texts.rulesRefused("part a 1;out 1^" + c + "1;", CANNOT_STAND);
            }
        }
        Texts.rulesTaken("part a 1;tie a,time;out (1);");
    }

    private static void words() {
        Check.sentence("words (a .. z, the longest row)");
        Texts.rulesTaken("part az 1;fault za off 1;");
        Texts.rulesRefused("part ^`a 1;", CANNOT_STAND);
        Texts.rulesRefused("part ^{a 1;", CANNOT_STAND);
        Texts.rulesRefused("part ^Aa 1;", CANNOT_STAND);
        Texts.rulesRefused("part a^`1;", CANNOT_STAND);
        Texts.rulesRefused("part a^{1;", CANNOT_STAND);
        Texts.rulesRefused("part a^Z 1;", CANNOT_STAND);
        Texts.rulesRefused("^parta 1;", CANNOT_STAND);
        Texts.rulesRefused("part a ^b 1;", CANNOT_STAND);
        Texts.rulesRefused("part a 1;out ^notn;", Texts.NOT_KNOWN);
        Texts.rulesTaken("part a 1;out not n;");
        Texts.cardRefused("part a 1;part b 1;", "^ab;", Texts.NOT_KNOWN);
    }

    private static void numbers() {
        Check.sentence("NUMBERS (1 to 5 digits); 2 a NUMBER of 6 digits or more");
        Texts.rulesTaken("part a 1;out 0;out 9;out 10;out 123;out 1234;out 12345;out 99999;out 00000;");
        Texts.rulesTaken("part a 00001;best 00020;limit 09999;");
        Texts.rulesRefused("part a ^000001;", TOO_MUCH);
        Texts.rulesRefused("part a 1;best ^000020;", TOO_MUCH);
        Texts.rulesRefused("part a 1;limit ^009999;", TOO_MUCH);
        Texts.rulesRefused("part a 1;out ^000000;", TOO_MUCH);
        Texts.rulesRefused("part a 1;out ^123456;", TOO_MUCH);
        Texts.rulesRefused("part a 1;out 1+^0000001;", TOO_MUCH);
        Texts.rulesRefused("part a 1;out ^" + "0".repeat(586) + ";", TOO_MUCH);
        Texts.rulesRefused("part a 1;out ^4294967296;", TOO_MUCH);
        Texts.rulesRefused("part a ^18446744073709551617;", TOO_MUCH);
        Texts.rulesRefused("part a 1 ^000001;", CANNOT_STAND);
        Texts.rulesRefused("part ^000001 1;", CANNOT_STAND);
        Texts.rulesRefused("^000001", CANNOT_STAND);
        Texts.rulesTaken("part a 1;out 1 + 2;");
        Texts.rulesRefused("part a 1;out 1 ^2;", CANNOT_STAND);
        Texts.cardTaken("part a 9;fault f off n-99991;", "a f 99999 f 00000;", 1, 2);
        Texts.cardRefused("part a 9;fault f off n;", "a f ^100000;", TOO_MUCH);
        Texts.cardRefused("part a 9;fault f off n;", "a f ^000000;", TOO_MUCH);
        Texts.cardRefused("part a 9;fault f off n;", "a f;time ^000000;", TOO_MUCH);
    }

    private static void textsLength() {
        Check.sentence("(the text's length where it ends too soon)");
        String[] whole = {"part a 1;", "part a 1;fault f off 1;", "part a 1;out (1);", "part a 1;tie a,time;",
            "part a 1;best 1;", "part a 1;limit 1;"};
        int[][] ends = {{0, 4, 6, 8}, {9, 14, 16, 20, 22}, {9, 12, 14, 15, 16}, {9, 12, 14, 15, 19}, {9, 13, 15}, {9, 14, 16}};
        for (int i = 0; i < whole.length; i++) {
            for (int end : ends[i]) {
                String text = whole[i].substring(0, end);
                if (i > 0 && end == 9) {
                    Texts.rulesTaken(text);
                } else {
                    Texts.rulesRefused(text + "^", CANNOT_STAND);
                    Texts.rulesRefused(text + " \n ^", CANNOT_STAND);
                }
            }
        }
        for (String text : new String[] {"a", "a f", "a f 5", "time", "time 5", "retired", "a;time", "a;time 5;retired"}) {
            Texts.cardRefused("part a 9;fault f off 1;", text + "^", CANNOT_STAND);
            Texts.cardRefused("part a 9;fault f off 1;", text + " \n ^", CANNOT_STAND);
        }
    }
}
