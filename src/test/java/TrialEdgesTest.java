/** Boundary cases of promises 9 (days), 10 (trial), 11 (run), 13 (told), 26 (count) and of Terms, part 3. */
final class TrialEdgesTest {
    private static final int NONE = DogTrials.NONE;
    private static final int[] FAR = {Integer.MIN_VALUE, -1000, 1000000, Integer.MAX_VALUE};

    public static void main(String[] args) {
        days();
        daysBelow0();
        daysAbove999();
        mostTrials();
        trialDays();
        trialRefuses();
        mostRuns();
        hours();
        winds();
        runRefuses();
        runsOfAnyTrial();
        whats();
        parts();
        notKnown();
        toldDays();
        toldFirst();
        lastOnADay();
        ahead();
        outByLimit();
        outIsntZero();
        outValues();
        counts();
        placesOfTies();
        placesByTime();
        onePlace();
        countedAlone();
        countWhat();
        Check.end();
    }

    private static void days() {
        Check.sentence("DAYS from 0 to 999; TODAY is 0 at first; days: n DAYS go by: TODAY");
        DogTrials x = new DogTrials();
        Check.due("at first", x.count(0), 0);
        Check.due("days(0)", x.days(0), 0);
        Check.due("days(1)", x.days(1), 1);
        Check.due("days(997)", x.days(997), 998);
        Check.due("days(1)", x.days(1), 999);
        Check.due("days(0) at the end", x.days(0), 999);
        DogTrials y = new DogTrials();
        Check.due("days(999)", y.days(999), 999);
        Check.due("TODAY", y.count(0), 999);
    }

    private static void daysBelow0() {
        Check.sentence("days: IllegalArgumentException: n is below 0");
        DogTrials x = new DogTrials();
        Check.illegalArgument(x, "days(-1) at 0", () -> x.days(-1));
        x.days(500);
        Check.illegalArgument(x, "days(-1)", () -> x.days(-1));
        Check.illegalArgument(x, "days(-500)", () -> x.days(-500));
        Check.illegalArgument(x, "days(-2^31)", () -> x.days(Integer.MIN_VALUE));
        Check.due("behind them", x.days(1), 501);
    }

    private static void daysAbove999() {
        Check.sentence("days: IllegalArgumentException: it would be above 999");
        DogTrials x = new DogTrials();
        Check.illegalArgument(x, "days(1000)", () -> x.days(1000));
        x.days(500);
        Check.illegalArgument(x, "days(500)", () -> x.days(500));
        Check.illegalArgument(x, "days(2^31 - 1)", () -> x.days(Integer.MAX_VALUE));
        Check.illegalArgument(x, "days(2^31 - 500)", () -> x.days(Integer.MAX_VALUE - 499));
        Check.due("days(499)", x.days(499), 999);
        Check.illegalArgument(x, "days(1)", () -> x.days(1));
        Check.illegalArgument(x, "days(2^31 - 1) at the end", () -> x.days(Integer.MAX_VALUE));
    }

    private static void mostTrials() {
        Check.sentence("TRIALS, from 0 on, at most 20; NONE: there are 20");
        DogTrials x = Check.trial("part a 1;", 0);
        for (int i = 1; i < 20; i++) {
            Check.due("trial", x.trial(0, 0, 0), i);
            Check.due("TRIALS", x.count(5), i + 1);
        }
        Check.none(x, "the 21st", () -> x.trial(0, 0, 0));
        Check.none(x, "the 21st on another DAY", () -> x.trial(0, 999, 0));
        Check.none(x, "the 21st on no DAY", () -> x.trial(0, 1000, 0));
        Check.noSuchElement(x, "by no RULES", () -> x.trial(1, 0, 0));
        Check.due("TRIAL 19 is there", x.run(19, 0, 0, 0, 0), 0);
        Check.noSuchElement(x, "TRIAL 20 isn't", () -> x.run(20, 0, 0, 0, 0));
    }

    private static void trialDays() {
        Check.sentence("a TRIAL on a DAY from 0 to 999; NONE: the DAY is not as told");
        DogTrials x = Check.trial("part a 90;fault f off n;", 0);
        Check.none(x, "DAY -1", () -> x.trial(0, -1, 0));
        Check.none(x, "DAY 1000", () -> x.trial(0, 1000, 0));
        for (int far : FAR) {
            Check.none(x, "DAY " + far, () -> x.trial(0, far, 0));
        }
        Check.due("DAY 0", x.trial(0, 0, 0), 1);
        Check.due("DAY 999, ahead of its time", x.trial(0, 999, 0), 2);
        Check.scored(x, 2, 0, 0, 7);
        Check.due("it is on that DAY", x.sum(0, 999, 999, 0), 7);
        Check.due("and on no other", x.sum(0, 0, 998, 0), NONE);
    }

    private static void trialRefuses() {
        Check.sentence("trial: NoSuchElementException: no such RULES, JUDGE");
        DogTrials x = Check.ground(2, 0, 0);
        Check.noSuchElement(x, "no RULES at all", () -> x.trial(0, 0, 0));
        Check.rules(x, "part a 1;");
        Check.rules(x, "part a 1;");
        for (int bad : new int[] {-1, 2, 6, Integer.MIN_VALUE, Integer.MAX_VALUE}) {
            Check.noSuchElement(x, "RULES " + bad, () -> x.trial(bad, 0, 0));
            Check.noSuchElement(x, "JUDGE " + bad, () -> x.trial(0, 0, bad));
        }
        Check.noSuchElement(x, "RULES 2 on no DAY", () -> x.trial(2, -1, 0));
        Check.noSuchElement(x, "JUDGE 2 on no DAY", () -> x.trial(0, -1, 2));
        Check.due("the last of both", x.trial(1, 0, 1), 0);
    }

    private static void mostRuns() {
        Check.sentence("RUNS, from 0 on, at most 120; NONE: there are 120");
        DogTrials x = Check.trial("part a 1;", 0);
        for (int i = 0; i < 120; i++) {
            Check.due("run", x.run(0, i % 24, 0, 0, 0), i);
            Check.due("RUNS", x.count(6), i + 1);
        }
        Check.none(x, "the 121st", () -> x.run(0, 0, 0, 0, 0));
        Check.none(x, "the 121st, HOUR 24", () -> x.run(0, 0, 0, 24, 0));
        Check.noSuchElement(x, "of no DOG", () -> x.run(0, 24, 0, 0, 0));
        Check.due("RUN 119 is there", x.card(119, 0), 0);
        Check.noSuchElement(x, "RUN 120 isn't", () -> x.card(120, 0));
    }

    private static void hours() {
        Check.sentence("an HOUR (0 to 23); NONE: HOUR not as told");
        DogTrials x = Check.trial("part a 1;out hour=23;", 0);
        Check.none(x, "HOUR -1", () -> x.run(0, 0, 0, -1, 0));
        Check.none(x, "HOUR 24", () -> x.run(0, 0, 0, 24, 0));
        for (int far : FAR) {
            Check.none(x, "HOUR " + far, () -> x.run(0, 0, 0, far, 0));
        }
        Check.due("HOUR 0", x.run(0, 0, 0, 0, 0), 0);
        Check.due("HOUR 23", x.run(0, 0, 0, 23, 0), 1);
        x.card(0, 0);
        x.card(1, 0);
        Check.due("at 0", x.told(0, 2, 0), 0);
        Check.due("at 23", x.told(1, 2, 0), 1);
    }

    private static void winds() {
        Check.sentence("WIND (0 to 9); NONE: WIND not as told");
        DogTrials x = Check.trial("part a 1;out wind=9;", 0);
        Check.none(x, "WIND -1", () -> x.run(0, 0, 0, 0, -1));
        Check.none(x, "WIND 10", () -> x.run(0, 0, 0, 0, 10));
        for (int far : FAR) {
            Check.none(x, "WIND " + far, () -> x.run(0, 0, 0, 0, far));
        }
        Check.due("WIND 0", x.run(0, 0, 0, 0, 0), 0);
        Check.due("WIND 9", x.run(0, 0, 0, 0, 9), 1);
        x.card(0, 0);
        x.card(1, 0);
        Check.due("at 0", x.told(0, 2, 0), 0);
        Check.due("at 9", x.told(1, 2, 0), 1);
    }

    private static void runRefuses() {
        Check.sentence("run: NoSuchElementException: no such TRIAL, DOG, PACKET");
        DogTrials x = Check.ground(1, 2, 2);
        Check.rules(x, "part a 1;");
        Check.noSuchElement(x, "no TRIAL at all", () -> x.run(0, 0, 0, 0, 0));
        x.trial(0, 0, 0);
        x.trial(0, 0, 0);
        for (int bad : new int[] {-1, 2, 24, Integer.MIN_VALUE, Integer.MAX_VALUE}) {
            Check.noSuchElement(x, "TRIAL " + bad, () -> x.run(bad, 0, 0, 0, 0));
            Check.noSuchElement(x, "DOG " + bad, () -> x.run(0, bad, 0, 0, 0));
            Check.noSuchElement(x, "PACKET " + bad, () -> x.run(0, 0, bad, 0, 0));
        }
        Check.due("the last of each", x.run(1, 1, 1, 0, 0), 0);
        DogTrials y = Check.ground(1, 2, 2);
        Check.rules(y, "part a 1;");
        y.trial(0, 0, 0);
        Check.noSuchElement(y, "no TRIAL, HOUR 24", () -> y.run(1, 0, 0, 24, 0));
        Check.noSuchElement(y, "no DOG, HOUR 24", () -> y.run(0, 2, 0, 24, 0));
        Check.noSuchElement(y, "no PACKET, WIND 10", () -> y.run(0, 0, 2, 0, 10));
    }

    private static void runsOfAnyTrial() {
        Check.sentence("A RUN (without a CARD yet): its number");
        DogTrials x = Check.trial("part a 1;", 0);
        x.trial(0, 9, 0);
        Check.due("of a TRIAL that is yet to come", x.run(1, 0, 0, 0, 0), 0);
        Check.due("the same once more", x.run(1, 0, 0, 0, 0), 1);
        Check.due("without a CARD", x.told(0, 3, 0), 0);
        Check.due("CARDS", x.count(7), 0);
        Check.due("its CARD is told ahead of the TRIAL's DAY", Check.card(x, 0, "a;"), 0);
        Check.due("known", x.told(0, 0, 0), 1);
    }

    private static void whats() {
        Check.sentence("told: NoSuchElementException: another what");
        DogTrials x = Check.trial("part a 1;", 1);
        Check.card(x, 0, "a;");
        int[] due = {1, 0, 0, 1, 1, 0};
        for (int what = 0; what <= 5; what++) {
            Check.due("told(0, " + what + ", 0)", x.told(0, what, 0), due[what]);
        }
        for (int what : new int[] {-1, 6, 7, 8, 9, -10, Integer.MIN_VALUE, Integer.MAX_VALUE}) {
            Check.noSuchElement(x, "told(0, " + what + ", 0)", () -> x.told(0, what, 0));
            Check.noSuchElement("told(0, " + what + ", 1)", () -> x.told(0, what, 1));
        }
    }

    private static void parts() {
        Check.sentence("told: 10 and a PART's number; NoSuchElementException: no such PART (of its RULES)");
        DogTrials x = Check.ground(1, 1, 1);
        Check.rules(x, "part a 1;");
        Check.rules(x, Texts.EIGHT_PARTS);
        x.trial(0, 0, 0);
        x.trial(1, 0, 0);
        x.run(0, 0, 0, 0, 0);
        x.run(1, 0, 0, 0, 0);
        Check.card(x, 0, "a;");
        Check.card(x, 1, "a;h;");
        Check.due("the one PART", x.told(0, 10, 0), 1);
        Check.noSuchElement(x, "of one PART the second", () -> x.told(0, 11, 0));
        Check.due("of 8 the first", x.told(1, 10, 0), 1);
        Check.due("of 8 the 7th", x.told(1, 16, 0), 0);
        Check.due("of 8 the last", x.told(1, 17, 0), 1);
        Check.noSuchElement(x, "the 9th", () -> x.told(1, 18, 0));
        Check.noSuchElement("the 9th of a RUN on no DAY", () -> x.told(1, 18, 1));
    }

    private static void notKnown() {
        Check.sentence("NONE for 0 to 2, 5, 10 and on: the RUN isn't known; 3 whether it COUNTS (1), 4 PLACE (NONE)");
        DogTrials x = Check.trial("part a 1;", 1);
        int[] due = {NONE, NONE, NONE, 0, NONE, NONE};
        for (int what = 0; what <= 5; what++) {
            Check.due("told(0, " + what + ", 0)", x.told(0, what, 0), due[what]);
        }
        Check.due("told(0, 10, 0)", x.told(0, 10, 0), NONE);
        Check.noSuchElement(x, "told(0, 11, 0)", () -> x.told(0, 11, 0));
        x.days(1);
        Check.card(x, 0, "a;");
        for (int what = 0; what <= 5; what++) {
            Check.due("on the DAY ahead, told(0, " + what + ", 0)", x.told(0, what, 0), due[what]);
        }
        Check.due("on the DAY ahead, told(0, 10, 0)", x.told(0, 10, 0), NONE);
    }

    private static void toldDays() {
        Check.sentence("told: IllegalArgumentException: no such DAY (0 to TODAY)");
        DogTrials x = Check.trial("part a 1;", 2);
        Check.card(x, 0, "a;");
        x.days(5);
        Check.due("DAY 0", x.told(0, 0, 0), 1);
        Check.due("TODAY", x.told(0, 0, 5), 1);
        for (int k : new int[] {-1, 6, 999, Integer.MIN_VALUE, Integer.MAX_VALUE}) {
            Check.illegalArgument(x, "DAY " + k, () -> x.told(0, 0, k));
            Check.illegalArgument("DAY " + k + " of a RUN that isn't known", () -> x.told(1, 3, k));
            Check.illegalArgument("DAY " + k + ", POINTS", () -> x.told(0, 10, k));
        }
    }

    private static void toldFirst() {
        Check.sentence("NoSuchElementException: no such RUN (as everywhere; ahead of IllegalArgumentException): told");
        DogTrials x = Check.trial("part a 1;", 1);
        for (int run : new int[] {-1, 1, 120, Integer.MIN_VALUE, Integer.MAX_VALUE}) {
            Check.noSuchElement(x, "told(" + run + ", 0, 0)", () -> x.told(run, 0, 0));
            Check.noSuchElement(x, "told(" + run + ", 0, 1)", () -> x.told(run, 0, 1));
            Check.noSuchElement("told(" + run + ", 10, -1)", () -> x.told(run, 10, -1));
        }
    }

    private static void lastOnADay() {
        Check.sentence("AS KNOWN on DAY k: the CARD told last on k or ahead (none: the RUN isn't known)");
        DogTrials x = Check.trial("part a 90;fault f off n;", 1);
        x.days(2);
        Check.card(x, 0, "a f 1;");
        Check.card(x, 0, "a f 2;");
        x.days(2);
        Check.card(x, 0, "a f 3;time 9;");
        x.days(1);
        int[] due = {NONE, NONE, 88, 88, 87, 87};
        int[] times = {NONE, NONE, 0, 0, 9, 9};
        for (int k = 0; k <= 5; k++) {
            Check.due("TOTAL on DAY " + k, x.told(0, 0, k), due[k]);
            Check.due("time on DAY " + k, x.told(0, 1, k), times[k]);
        }
    }

    private static void ahead() {
        Check.sentence("AS KNOWN on DAY k: PROTESTS decided on k or ahead");
        DogTrials x = Check.trial("part a 9;", 1);
        Check.card(x, 0, "a;");
        x.protest(0);
        x.protest(0);
        x.days(2);
        x.decide(0, 3, 5);
        x.days(2);
        x.decide(1, 1, 0);
        x.days(1);
        int[] totals = {9, 9, 14, 14, 14, 14};
        int[] counting = {1, 1, 1, 1, 0, 0};
        for (int k = 0; k <= 5; k++) {
            Check.due("TOTAL on DAY " + k, x.told(0, 0, k), totals[k]);
            Check.due("COUNTS on DAY " + k, x.told(0, 3, k), counting[k]);
        }
    }

    private static void outByLimit() {
        Check.sentence("OUT is a RUN .. with a time above the limit, if one is told");
        DogTrials x = Check.trial("part a 1;limit 100;", 4);
        Check.card(x, 0, "a;time 99;");
        Check.card(x, 1, "a;time 100;");
        Check.card(x, 2, "a;time 101;");
        Check.card(x, 3, "a;");
        int[] due = {0, 0, 1, 0};
        for (int i = 0; i < 4; i++) {
            Check.due("OUT " + i, x.told(i, 2, 0), due[i]);
        }
        DogTrials y = Check.trial("part a 1;limit 1;", 3);
        Check.card(y, 0, "a;time 1;");
        Check.card(y, 1, "a;time 2;");
        Check.card(y, 2, "a;time 0;");
        Check.due("at the least limit", y.told(0, 2, 0), 0);
        Check.due("above it", y.told(1, 2, 0), 1);
        Check.due("below it", y.told(2, 2, 0), 0);
        DogTrials z = Check.trial("part a 1;limit 9999;", 2);
        Check.card(z, 0, "a;time 9999;");
        Check.card(z, 1, "a;time 10000;");
        Check.due("at the greatest limit", z.told(0, 2, 0), 0);
        Check.due("above it", z.told(1, 2, 0), 1);
        DogTrials none = Check.trial("part a 1;", 1);
        Check.card(none, 0, "a;time 99999;");
        Check.due("no limit", none.told(0, 2, 0), 0);
    }

    private static void outIsntZero() {
        Check.sentence("OUT is a RUN with 'retired' .. or if some 'out' isn't 0");
        String[] outs = {"0", "1", "0-1", "2", "65536*32768", "65536*65536"};
        int[] due = {0, 1, 1, 1, 1, 0};
        for (int i = 0; i < outs.length; i++) {
            DogTrials x = Check.trial("part a 1;out " + outs[i] + ";", 1);
            Check.card(x, 0, "a;");
            Check.due("out " + outs[i], x.told(0, 2, 0), due[i]);
            Check.due("it counts", x.told(0, 3, 0), 1 - due[i]);
        }
        DogTrials x = Check.trial("part a 1;", 2);
        Check.card(x, 0, "retired;");
        Check.card(x, 1, "");
        Check.due("retired", x.told(0, 2, 0), 1);
        Check.due("an empty CARD", x.told(1, 2, 0), 0);
    }

    private static void outValues() {
        Check.sentence("(VALUES: total, before PROTESTS add; time of the CARD, 0 without; hour, wind; others 0)");
        DogTrials x = Check.trial("part a 9;fault f off n;out total<5;", 2);
        Check.card(x, 0, "a f 4;");
        Check.card(x, 1, "a f 5;");
        for (int run = 0; run < 2; run++) {
            x.protest(run);
            x.decide(run, 3, run == 0 ? -5 : 50);
        }
        Check.due("TOTAL", x.told(0, 0, 0), 0);
        Check.due("not OUT: it was 5", x.told(0, 2, 0), 0);
        Check.due("TOTAL", x.told(1, 0, 0), 54);
        Check.due("OUT: it was 4", x.told(1, 2, 0), 1);
        DogTrials y = Check.trial("part a 9;fault f off n;out time;", 2);
        Check.card(y, 0, "a f;");
        Check.card(y, 1, "a f;time 1;");
        Check.due("time without", y.told(0, 2, 0), 0);
        Check.due("time 1", y.told(1, 2, 0), 1);
        DogTrials z = Check.trial("part a 9;part b 9;fault f off n;out n or nth or left;", 1);
        Check.card(z, 0, "a f 2 f 3;b f 4;time 7;");
        Check.due("n, nth, left", z.told(0, 2, 0), 0);
    }

    private static void counts() {
        Check.sentence("COUNTS: a RUN that is known, isn't made VOID by a PROTEST, and isn't OUT");
        DogTrials x = Check.trial("part a 9;limit 5;", 6);
        for (int run = 1; run < 6; run++) {
            Check.card(x, run, run == 4 ? "a;retired;" : run == 5 ? "a;time 6;" : "a;");
        }
        x.protest(2);
        x.protest(3);
        x.decide(0, 1, 0);
        x.decide(1, 2, 0);
        int[] due = {0, 1, 0, 0, 0, 0};
        int[] outs = {NONE, 0, 0, 1, 1, 1};
        for (int run = 0; run < 6; run++) {
            Check.due("COUNTS " + run, x.told(run, 3, 0), due[run]);
            Check.due("OUT " + run, x.told(run, 2, 0), outs[run]);
            Check.due("PLACE " + run, x.told(run, 4, 0), due[run] == 1 ? 1 : NONE);
        }
    }

    private static void placesOfTies() {
        Check.sentence("PLACE: a greater TOTAL, of like ones by 'tie', from the first: more POINTS of that PART");
        DogTrials x = Check.trial("part a 10;part b 10;part c 10;fault f off n;tie b,a;", 4);
        Check.card(x, 0, "a f 2;b f 4;c;");
        Check.card(x, 1, "a f 4;b f 2;c;");
        Check.card(x, 2, "a f 3;b f 2;c f 1;");
        Check.card(x, 3, "a;b;c f 5;");
        int[] due = {4, 3, 2, 1};
        for (int run = 0; run < 4; run++) {
            Check.due("PLACE " + run, x.told(run, 4, 0), due[run]);
        }
    }

    private static void placesByTime() {
        Check.sentence("less time (by 'time'; 0 without)");
        DogTrials x = Check.trial("part a 10;tie time;", 4);
        Check.card(x, 0, "a;time 2;");
        Check.card(x, 1, "a;");
        Check.card(x, 2, "a;time 1;");
        Check.card(x, 3, "a;time 0;");
        int[] due = {4, 1, 3, 1};
        for (int run = 0; run < 4; run++) {
            Check.due("PLACE " + run, x.told(run, 4, 0), due[run]);
        }
        DogTrials y = Check.trial("part a 10;fault f off n;tie time;", 2);
        Check.card(y, 0, "a f 1;time 1;");
        Check.card(y, 1, "a;time 99999;");
        Check.due("less time, but a lesser TOTAL", y.told(0, 4, 0), 2);
    }

    private static void onePlace() {
        Check.sentence("those alike in all have one PLACE");
        DogTrials x = Check.trial("part a 10;part b 10;fault f off n;", 5);
        Check.card(x, 0, "a f 1;b;");
        Check.card(x, 1, "a;b f 1;time 5;");
        Check.card(x, 2, "a;b;");
        Check.card(x, 3, "a f 1;b f 1;");
        Check.card(x, 4, "a;b;time 7;");
        int[] due = {3, 3, 1, 5, 1};
        for (int run = 0; run < 5; run++) {
            Check.due("PLACE " + run + " without 'tie'", x.told(run, 4, 0), due[run]);
        }
        DogTrials y = Check.trial("part a 10;part b 10;tie a,time;", 2);
        Check.card(y, 0, "a;time 5;");
        Check.card(y, 1, "a;time 5;");
        Check.due("alike", y.told(0, 4, 0), 1);
        Check.due("alike", y.told(1, 4, 0), 1);
    }

    private static void countedAlone() {
        Check.sentence("PLACE in its TRIAL of one that COUNTS: 1, and how many that COUNT are ahead of it");
        DogTrials x = Check.trial("part a 10;part b 10;", 3);
        x.trial(0, 0, 0);
        x.run(1, 0, 0, 0, 0);
        Check.card(x, 0, "a;");
        Check.due("alone", x.told(0, 4, 0), 1);
        Check.card(x, 1, "a;b;retired;");
        Check.due("behind one that is OUT", x.told(0, 4, 0), 1);
        Check.card(x, 3, "a;b;");
        Check.due("behind one of another TRIAL", x.told(0, 4, 0), 1);
        x.days(1);
        Check.card(x, 2, "a;b;");
        Check.due("behind one", x.told(0, 4, 1), 2);
        Check.due("the DAY ahead", x.told(0, 4, 0), 1);
        DogTrials y = Check.trial("part a 99;fault f off n;", 0);
        for (int run = 0; run < 120; run++) {
            y.run(0, run % 24, 0, 0, 0);
            Check.card(y, run, "a f " + (run / 2) + ";");
        }
        Check.due("the first of 120", y.told(0, 4, 0), 1);
        Check.due("the last of 120, two by two", y.told(119, 4, 0), 119);
    }

    private static void countWhat() {
        Check.sentence("count: NoSuchElementException: another what");
        DogTrials x = new DogTrials();
        Check.due("the first", x.count(0), 0);
        Check.due("the last", x.count(10), 0);
        for (int what : new int[] {-1, 11, 12, Integer.MIN_VALUE, Integer.MAX_VALUE}) {
            Check.noSuchElement(x, "count(" + what + ")", () -> x.count(what));
        }
    }
}
