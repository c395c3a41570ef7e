/** Boundary cases of promises 12 (card) and 14 (took), of a CARD's text and its POINTS. */
final class CardEdgesTest {
    private static final int NONE = DogTrials.NONE;
    private static final int CANNOT_STAND = Texts.CANNOT_STAND;
    private static final int TOO_MUCH = Texts.TOO_MUCH;
    private static final int NOT_KNOWN = Texts.NOT_KNOWN;
    private static final int TOLD_ALREADY = Texts.TOLD_ALREADY;
    private static final String RULES = "part a 10;part b 20;part abcdefgh 30;"
        + "fault f off n;fault g off nth;fault a off 1;fault abcdefgh off 2;fault z off 0;";

    public static void main(String[] args) {
        emptyCards();
        rowsLeftOut();
        mostFaults();
        numbersBehindFaults();
        times();
        cannotStand();
        nameOf9Letters();
        notKnown();
        toldAlready();
        theLeast();
        partAlone();
        below0();
        noMoreThanIsLeft();
        nWithout();
        nthFromOne();
        leftOfThePart();
        totalAndTimeAreNothing();
        notOnTheCard();
        noSuchRun();
        tapeHasNotSoMany();
        mostCards();
        fullOfCards();
        refusedCardsLeaveNothing();
        tookThereIsNone();
        tookDays();
        Check.end();
    }

    private static void taken(String text, int total, int faults) {
        Texts.cardTaken(RULES, text, total, faults);
    }

    private static void refused(String marked, int fault) {
        Texts.cardRefused(RULES, marked, fault);
    }

    private static void emptyCards() {
        Check.sentence("CARD: ROW* ['time' NUMBER ';'] ['retired' ';']");
        taken("", 0, 0);
        taken("   ", 0, 0);
        taken("time 0;", 0, 0);
        taken("retired;", 0, 0);
        taken("time 5;retired;", 0, 0);
        taken("a;", 10, 0);
        taken("a;retired;", 10, 0);
        taken("a;time 5;", 10, 0);
        taken("a;b;abcdefgh;time 5;retired;", 60, 0);
        refused("retired;^time 5;", CANNOT_STAND);
        refused("time 5;^time 5;", CANNOT_STAND);
        refused("retired;^retired;", CANNOT_STAND);
        refused("time 5;^a;", CANNOT_STAND);
        refused("retired;^a;", CANNOT_STAND);
        refused("time 5;retired;^a;", CANNOT_STAND);
        refused("time 5;retired;^x", CANNOT_STAND);
        refused("time 5;retired;^;", CANNOT_STAND);
    }

    private static void rowsLeftOut() {
        Check.sentence("Each PART at most once, in the order of RULES (some may be left out)");
        taken("a;b;abcdefgh;", 60, 0);
        taken("a;abcdefgh;", 40, 0);
        taken("b;", 20, 0);
        taken("abcdefgh;", 30, 0);
        refused("a;^a;", TOLD_ALREADY);
        refused("b;^a;", TOLD_ALREADY);
        refused("a;abcdefgh;^b;", TOLD_ALREADY);
        Texts.cardTaken(Texts.EIGHT_PARTS, "a;b;c;d;e;f;g;h;", 8, 0);
        Texts.cardRefused(Texts.EIGHT_PARTS, "a;b;c;d;e;f;g;h;^h;", TOLD_ALREADY);
        Texts.cardRefused(Texts.EIGHT_PARTS, "a;b;c;d;e;f;g;h;^i;", NOT_KNOWN);
    }

    private static void mostFaults() {
        Check.sentence("At most 40 faults; 2 the NAME of the 41st fault");
        String z = " z";
        taken("a" + z.repeat(39) + ";", 10, 39);
        taken("a" + z.repeat(40) + ";", 10, 40);
        refused("a" + z.repeat(40) + " ^z;", TOO_MUCH);
        refused("a" + z.repeat(40) + " ^z", TOO_MUCH);
        refused("a" + z.repeat(40) + " ^zz;", TOO_MUCH);
        refused("a" + z.repeat(40) + " ^off;", CANNOT_STAND);
        refused("a" + z.repeat(40) + " 5 ^5;", CANNOT_STAND);
        taken("a" + z.repeat(20) + ";b" + z.repeat(20) + ";", 30, 40);
        refused("a" + z.repeat(20) + ";b" + z.repeat(20) + " ^z;", TOO_MUCH);
        refused("a" + z.repeat(40) + ";b ^z;", TOO_MUCH);
        taken("a" + z.repeat(40) + ";b;abcdefgh;time 5;retired;", 60, 40);
        DogTrials x = Check.trial("part a 99;fault f off n;", 1);
        StringBuilder card = new StringBuilder("a");
        for (int i = 0; i < 40; i++) {
            card.append(" f ").append(i % 4);
        }
        Check.due("card", Check.card(x, 0, card.append(';').toString()), 0);
        for (int i = 0; i < 40; i++) {
            Check.due("took(" + i + ")", x.took(0, i, 0), i % 4);
        }
        Check.due("faults", x.told(0, 5, 0), 40);
        Check.noSuchElement("took(40)", () -> x.took(0, 40, 0));
    }

    private static void numbersBehindFaults() {
        Check.sentence("(NAME of a fault [NUMBER])*; 2 a NUMBER of 6 digits or more");
        taken("a f;", 9, 1);
        taken("a f 0;", 10, 1);
        taken("a f 1;", 9, 1);
        taken("a f 99999;", 0, 1);
        taken("a f 00003;", 7, 1);
        refused("a f ^100000;", TOO_MUCH);
        refused("a f ^000003;", TOO_MUCH);
        refused("a f 1 ^1;", CANNOT_STAND);
        refused("a ^1;", CANNOT_STAND);
        refused("a ^100000;", CANNOT_STAND);
    }

    private static void times() {
        Check.sentence("['time' NUMBER ';']; told: 1 time (0)");
        int[] told = {0, 1, 9999, 10000, 99999};
        for (int time : told) {
            DogTrials x = Check.trial("part a 1;", 1);
            Check.due("card", Check.card(x, 0, "a;time " + time + ";"), 0);
            Check.due("time", x.told(0, 1, 0), time);
        }
        DogTrials x = Check.trial("part a 1;", 1);
        Check.due("card", Check.card(x, 0, "a;"), 0);
        Check.due("time without", x.told(0, 1, 0), 0);
        refused("time ^100000;", TOO_MUCH);
        refused("time ^000001;", TOO_MUCH);
        refused("time ^;", CANNOT_STAND);
        refused("time ^n;", CANNOT_STAND);
        refused("time 5^", CANNOT_STAND);
        refused("time 5 ^5;", CANNOT_STAND);
    }

    private static void cannotStand() {
        Check.sentence("1 a TOKEN that can't stand there: in a CARD, a KEYWORD where a NAME may stand");
        for (String word : Texts.KEYWORDS) {
            if (!word.equals("time") && !word.equals("retired")) {
                refused("^" + word + " 1;", CANNOT_STAND);
                refused("a;^" + word + " 1;", CANNOT_STAND);
            }
            refused("a ^" + word + " 1;", CANNOT_STAND);
            refused("a f ^" + word + ";", CANNOT_STAND);
            refused("a f 1 ^" + word + ";", CANNOT_STAND);
        }
        for (String bad : new String[] {"^;", "^5", "^,", "^(", "^-", "^!", "^A"}) {
            refused(bad, CANNOT_STAND);
            refused("a;" + bad, CANNOT_STAND);
        }
        for (String bad : new String[] {"^,", "^(", "^-1", "^!", "^A", "^"}) {
            refused("a" + bad, CANNOT_STAND);
            refused("a f" + bad, CANNOT_STAND);
            refused("a f 1" + bad, CANNOT_STAND);
            refused("retired" + bad, CANNOT_STAND);
            refused("time 1" + bad, CANNOT_STAND);
            refused("time " + bad, CANNOT_STAND);
        }
        refused("retired ^5;", CANNOT_STAND);
    }

    private static void nameOf9Letters() {
        Check.sentence("2 a NAME of 9 letters or more: in a CARD");
        taken("abcdefgh;", 30, 0);
        taken("a abcdefgh;", 8, 1);
        refused("^abcdefghi;", TOO_MUCH);
        refused("a ^abcdefghi;", TOO_MUCH);
        refused("a f ^abcdefghi;", TOO_MUCH);
        refused("a f 5 ^abcdefghi;", TOO_MUCH);
        refused("a;^abcdefghi;", TOO_MUCH);
        refused("time 5;^abcdefghi;", CANNOT_STAND);
        refused("^" + "a".repeat(599), TOO_MUCH);
    }

    private static void notKnown() {
        Check.sentence("3 .. in a CARD no PART's, no fault's: any word that is no KEYWORD can stand there");
        refused("^c;", NOT_KNOWN);
        refused("^f;", NOT_KNOWN);
        refused("a;^f;", NOT_KNOWN);
        refused("a;b;abcdefgh;^c;", NOT_KNOWN);
        refused("a ^b;", NOT_KNOWN);
        refused("a ^c;", NOT_KNOWN);
        refused("a f ^c;", NOT_KNOWN);
        refused("a f 5 ^c;", NOT_KNOWN);
        refused("^abcdefg;", NOT_KNOWN);
        refused("^bbcdefgh;", NOT_KNOWN);
        refused("a ^abcdefgi;", NOT_KNOWN);
    }

    private static void toldAlready() {
        Check.sentence("4 .. in a CARD a PART, or one that comes ahead of one that was told");
        refused("a;^a;", TOLD_ALREADY);
        refused("b;^b;", TOLD_ALREADY);
        refused("a;b;^a;", TOLD_ALREADY);
        refused("a;b;abcdefgh;^abcdefgh;", TOLD_ALREADY);
        refused("b;^a;", TOLD_ALREADY);
        refused("abcdefgh;^a;", TOLD_ALREADY);
        refused("a;abcdefgh;^b;", TOLD_ALREADY);
        taken("a f f f;", 7, 3);
    }

    private static void theLeast() {
        Check.sentence("FAULTS of both .. of several the least: in a CARD");
        refused("a" + " z".repeat(40) + " ^abcdefghi;", TOO_MUCH);
        refused("a" + " z".repeat(40) + " ^c;", TOO_MUCH);
        refused("a" + " z".repeat(40) + " ^time;", CANNOT_STAND);
        refused("a ^100000;", CANNOT_STAND);
        refused("^123456789;", CANNOT_STAND);
        refused("a ^123456789;", CANNOT_STAND);
        refused("a;^123456789;", CANNOT_STAND);
        refused("time ^abcdefghi;", CANNOT_STAND);
        refused("time 5;^abcdefghi;", CANNOT_STAND);
    }

    private static void partAlone() {
        Check.sentence("POINTS of a PART on the CARD: its points");
        DogTrials x = Check.trial(Texts.EIGHT_PARTS + "fault f off 1;", 1);
        Check.card(x, 0, "a;b f;h;");
        int[] due = {1, 0, 0, 0, 0, 0, 0, 1};
        for (int part = 0; part < 8; part++) {
            Check.due("told(0, " + (10 + part) + ", 0)", x.told(0, 10 + part, 0), due[part]);
        }
    }

    private static void below0() {
        Check.sentence("its EXPR (below 0: 0)");
        DogTrials x = Check.trial("part a 10;fault f off n-3;fault g off 65536*32768;", 1);
        Check.card(x, 0, "a f 3 f 2 f 0 g f 4;");
        int[] due = {0, 0, 0, 0, 1};
        for (int i = 0; i < due.length; i++) {
            Check.due("took(" + i + ")", x.took(0, i, 0), due[i]);
        }
        Check.due("POINTS", x.told(0, 10, 0), 9);
    }

    private static void noMoreThanIsLeft() {
        Check.sentence("no more than is left");
        DogTrials x = Check.trial("part a 10;part b 10;fault f off n;fault g off 65536*32767+65535;", 1);
        Check.card(x, 0, "a f 9 f 1 f 1;b f 9 f 2 g;");
        int[] due = {9, 1, 0, 9, 1, 0};
        for (int i = 0; i < due.length; i++) {
            Check.due("took(" + i + ")", x.took(0, i, 0), due[i]);
        }
        Check.due("POINTS of a", x.told(0, 10, 0), 0);
        Check.due("POINTS of b", x.told(0, 11, 0), 0);
        Check.due("TOTAL", x.told(0, 0, 0), 0);
        Texts.cardTaken("part a 10;fault f off n;", "a f 10;", 0, 1);
        Texts.cardTaken("part a 10;fault f off n;", "a f 11;", 0, 1);
    }

    private static void nWithout() {
        Check.sentence("n the NUMBER behind it (1 without)");
        DogTrials x = Check.trial("part a 99;fault f off n*10;", 1);
        Check.card(x, 0, "a f f 0 f 2 f;");
        int[] due = {10, 0, 20, 10};
        for (int i = 0; i < due.length; i++) {
            Check.due("took(" + i + ")", x.took(0, i, 0), due[i]);
        }
    }

    private static void nthFromOne() {
        Check.sentence("nth which one of that fault it is in this PART (1 and on)");
        DogTrials x = Check.trial("part a 99;part b 99;fault f off nth;fault g off nth*10;fault h off 0;", 1);
        Check.card(x, 0, "a f g f h g f 7 f;b g f f;");
        int[] due = {1, 10, 2, 0, 20, 3, 4, 10, 1, 2};
        for (int i = 0; i < due.length; i++) {
            Check.due("took(" + i + ")", x.took(0, i, 0), due[i]);
        }
        DogTrials y = Check.trial("part a 99;fault f off nth=40;", 1);
        Check.card(y, 0, "a" + " f".repeat(40) + ";");
        Check.due("the 39th", y.took(0, 38, 0), 0);
        Check.due("the 40th", y.took(0, 39, 0), 1);
        Check.card(y, 0, "a f;");
        Check.due("of another CARD the first again", y.told(0, 10, 0), 99);
    }

    private static void leftOfThePart() {
        Check.sentence("left what is left of the PART");
        DogTrials x = Check.trial("part a 9;part b 20;fault f off left/2;fault g off left;", 1);
        Check.card(x, 0, "a f f g g f;b f;");
        int[] due = {4, 2, 3, 0, 0, 10};
        for (int i = 0; i < due.length; i++) {
            Check.due("took(" + i + ")", x.took(0, i, 0), due[i]);
        }
    }

    private static void totalAndTimeAreNothing() {
        Check.sentence("VALUES .. hour, wind; .. total, time: 0");
        DogTrials x = Check.ground(1, 1, 1);
        Check.rules(x, "part a 99;part b 99;fault f off total+time;fault g off hour;fault h off wind;");
        x.trial(0, 0, 0);
        x.run(0, 0, 0, 0, 0);
        x.run(0, 0, 0, 23, 9);
        Check.card(x, 0, "a f g h;b f g h;time 50;");
        Check.card(x, 1, "a f g h;b f g h;time 50;");
        int[] due = {0, 23, 9, 0, 23, 9};
        for (int i = 0; i < due.length; i++) {
            Check.due("at 0, 0: took(" + i + ")", x.took(0, i, 0), 0);
            Check.due("at 23, 9: took(" + i + ")", x.took(1, i, 0), due[i]);
        }
        DogTrials y = Check.trial("part a 99;fault f off total+time;out total+time<0;", 1);
        Check.card(y, 0, "a;time 50;");
        Check.card(y, 0, "a f;time 50;");
        Check.due("behind a CARD whose 'out' asked for them", y.took(0, 0, 0), 0);
    }

    private static void notOnTheCard() {
        Check.sentence("One not on the CARD has 0");
        DogTrials x = Check.trial("part a 10;part b 20;part c 30;", 1);
        Check.card(x, 0, "b;");
        Check.due("a", x.told(0, 10, 0), 0);
        Check.due("b", x.told(0, 11, 0), 20);
        Check.due("c", x.told(0, 12, 0), 0);
        Check.card(x, 0, "");
        Check.due("b of an empty CARD", x.told(0, 11, 0), 0);
        Check.due("TOTAL of an empty CARD", x.told(0, 0, 0), 0);
        Check.due("it counts", x.told(0, 3, 0), 1);
    }

    private static void noSuchRun() {
        Check.sentence("card: NoSuchElementException: no such RUN (as everywhere; ahead of IllegalArgumentException)");
        DogTrials x = Check.trial("part a 1;", 2);
        Check.feed(x, "a;");
        for (int run : new int[] {-1, 2, 120, Integer.MIN_VALUE, Integer.MAX_VALUE}) {
            Check.noSuchElement(x, "card(" + run + ", 2)", () -> x.card(run, 2));
            Check.noSuchElement(x, "card(" + run + ", 21)", () -> x.card(run, 21));
            Check.noSuchElement(x, "card(" + run + ", -1)", () -> x.card(run, -1));
        }
        Check.due("the last RUN, the tape as it was", x.card(1, 2), 0);
        Check.due("its TOTAL", x.told(1, 0, 0), 1);
    }

    private static void tapeHasNotSoMany() {
        Check.sentence("card: IllegalArgumentException: the tape has not so many, n below 0 (nothing changes)");
        DogTrials x = Check.trial("part a 1;", 1);
        Check.illegalArgument(x, "card(0, 1) of an empty tape", () -> x.card(0, 1));
        Check.feed(x, "a;");
        for (int n : new int[] {-1, 21, 600, 601, Integer.MIN_VALUE, Integer.MAX_VALUE}) {
            Check.illegalArgument(x, "card(0, " + n + ")", () -> x.card(0, n));
        }
        Check.due("not known yet", x.told(0, 0, 0), NONE);
        Check.due("all of it", x.card(0, 20), 0);
        Check.due("the tape is empty", x.count(10), 0);
        Check.feed(x, "a;x");
        Check.due("its first bytes", x.card(0, 2), 0);
        Check.due("the tape is empty", x.count(10), 0);
        Check.feed(x, "a;x");
        Check.due("none of its bytes", x.card(0, 0), 0);
        Check.due("the tape is empty", x.count(10), 0);
        Check.due("an empty CARD", x.told(0, 0, 0), 0);
    }

    private static void mostCards() {
        Check.sentence("at most 200 CARDS in all; 9: there are 200 (ahead of a FAULT; likewise)");
        DogTrials x = Check.trial("part a 1;", 2);
        for (int i = 1; i <= 199; i++) {
            Check.due("card " + i, x.card(i % 2, 0), 0);
        }
        Check.due("a FAULT is no CARD", Check.card(x, 0, "x"), NOT_KNOWN);
        Check.due("CARDS", x.count(7), 199);
        Check.due("the 200th", Check.card(x, 0, "a;"), 0);
        Check.due("CARDS", x.count(7), 200);
        Check.feed(x, "a;time 5;");
        Check.due("the 201st", x.card(1, 9), 9);
        Check.due("the tape is empty then", x.count(10), 0);
        Check.due("no FAULT", x.fault(), NONE);
        Check.due("CARDS", x.count(7), 200);
        Check.due("time of RUN 1", x.told(1, 1, 0), 0);
        Check.feed(x, "x");
        Check.due("ahead of a FAULT", x.card(0, 1), 9);
        Check.due("the tape is empty then", x.count(10), 0);
        Check.due("no FAULT", x.fault(), NONE);
        Check.due("TOTAL of RUN 0", x.told(0, 0, 0), 1);
        Check.due("TOTAL of RUN 1", x.told(1, 0, 0), 0);
    }

    private static void fullOfCards() {
        Check.sentence("card with 200 there: NoSuchElementException: no such RUN; IllegalArgumentException (nothing changes)");
        DogTrials x = Check.trial("part a 1;", 1);
        for (int i = 1; i <= 200; i++) {
            Check.due("card " + i, x.card(0, 0), 0);
        }
        Check.due("a FAULT of RULES", Check.rules(x, "part a 1;x"), -2);
        Check.feed(x, "a;");
        Check.noSuchElement(x, "no RUN 1", () -> x.card(1, 2));
        Check.illegalArgument(x, "n 21", () -> x.card(0, 21));
        Check.illegalArgument(x, "n -1", () -> x.card(0, -1));
        Check.due("that FAULT's place", x.fault(), 9);
        Check.due("there are 200", x.card(0, 2), 9);
        Check.due("no FAULT", x.fault(), NONE);
    }

    private static void refusedCardsLeaveNothing() {
        Check.sentence("card: 0, or the FAULT: then the RUN is known as it was");
        DogTrials x = Check.trial("part a 10;part b 10;fault f off n;out time=7;", 2);
        Check.due("a good one", Check.card(x, 0, "a f 2 f 3;b;time 5;"), 0);
        Check.due("a FAULT at the end", Check.card(x, 0, "a f 1;b f 7;time 7;retired"), CANNOT_STAND);
        Check.due("a FAULT in the midst", Check.card(x, 1, "a f 1;b f 7;a;"), TOLD_ALREADY);
        Check.due("TOTAL", x.told(0, 0, 0), 15);
        Check.due("time", x.told(0, 1, 0), 5);
        Check.due("OUT", x.told(0, 2, 0), 0);
        Check.due("faults", x.told(0, 5, 0), 2);
        Check.due("POINTS of b", x.told(0, 11, 0), 10);
        Check.due("took", x.took(0, 1, 0), 3);
        Check.due("the other RUN isn't known", x.told(1, 3, 0), 0);
        Check.due("no PROTEST against it", x.protest(1), NONE);
        Check.due("CARDS", x.count(7), 1);
        Check.due("the next good one", Check.card(x, 1, "b f;"), 0);
        Check.due("TOTAL", x.told(1, 0, 0), 9);
        Check.due("faults", x.told(1, 5, 0), 1);
    }

    private static void tookThereIsNone() {
        Check.sentence("took: NoSuchElementException: there is none (asked behind the DAY), or the RUN isn't known");
        DogTrials x = Check.trial("part a 10;fault f off n;", 2);
        x.days(1);
        Check.card(x, 0, "a f 2 f 3;");
        Check.due("the first", x.took(0, 0, 1), 2);
        Check.due("the last", x.took(0, 1, 1), 3);
        for (int i : new int[] {-1, 2, 40, Integer.MIN_VALUE, Integer.MAX_VALUE}) {
            Check.noSuchElement(x, "took(0, " + i + ", 1)", () -> x.took(0, i, 1));
            Check.illegalArgument(x, "took(0, " + i + ", 2)", () -> x.took(0, i, 2));
            Check.illegalArgument(x, "took(0, " + i + ", -1)", () -> x.took(0, i, -1));
        }
        Check.noSuchElement("a RUN that isn't known yet", () -> x.took(0, 0, 0));
        Check.noSuchElement("a RUN that isn't known", () -> x.took(1, 0, 1));
        Check.illegalArgument("a RUN that isn't known, no such DAY", () -> x.took(1, 0, 2));
        Check.noSuchElement("no such RUN, no such DAY", () -> x.took(2, 0, 2));
        Check.noSuchElement("RUN -1, DAY -1", () -> x.took(-1, 0, -1));
        Check.noSuchElement("no such RUN", () -> x.took(2, 0, 1));
        Check.card(x, 0, "a;");
        Check.noSuchElement("a CARD without a fault", () -> x.took(0, 0, 1));
    }

    private static void tookDays() {
        Check.sentence("took: as known on DAY k; IllegalArgumentException: no such DAY (0 to TODAY)");
        DogTrials x = Check.trial("part a 10;fault f off n;", 1);
        Check.card(x, 0, "a f 2;");
        x.days(998);
        Check.card(x, 0, "a f 3;");
        Check.due("DAY 0", x.took(0, 0, 0), 2);
        Check.due("the DAY ahead", x.took(0, 0, 997), 2);
        Check.due("TODAY", x.took(0, 0, 998), 3);
        Check.illegalArgument(x, "the DAY behind", () -> x.took(0, 0, 999));
        Check.illegalArgument(x, "DAY -1", () -> x.took(0, 0, -1));
        Check.illegalArgument(x, "DAY -2^31", () -> x.took(0, 0, Integer.MIN_VALUE));
        Check.illegalArgument(x, "DAY 2^31 - 1", () -> x.took(0, 0, Integer.MAX_VALUE));
        x.days(1);
        Check.due("it is there now", x.took(0, 0, 999), 3);
        Check.illegalArgument(x, "DAY 1000", () -> x.took(0, 0, 1000));
    }
}
