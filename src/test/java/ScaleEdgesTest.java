/** Boundary cases of promises 24 (scale) and 25 (luck). */
final class ScaleEdgesTest {
    private static final int NONE = DogTrials.NONE;
    private static final int NO_LUCK = -1000000;
    private static final String RULES = "part a 90;fault f off n;";

    public static void main(String[] args) {
        nothingTold();
        alone();
        leastNumber();
        oneOfManyTrials();
        cutDown();
        met();
        joined();
        leastOfTheGroup();
        twoGroups();
        mostJudges();
        mostDogs();
        greatestTotals();
        knownOnDay();
        notCounting();
        noSuchJudge();
        noSuchWhat();
        noSuchDay();
        noneAtThatHour();
        firstAndLastHour();
        luckCutDown();
        luckOfAll();
        luckKnownOnDay();
        luckNotCounting();
        luckRefuses();
        greatestLuck();
        Check.end();
    }

    /** A TRIAL under each of so many JUDGES; 24 DOGS. */
    private static DogTrials judges(int judges) {
        DogTrials x = Check.ground(judges, 1, 24);
        Check.due("rules", Check.rules(x, RULES), 0);
        for (int i = 0; i < judges; i++) {
            Check.due("trial", x.trial(0, 0, i), i);
        }
        return x;
    }

    private static void asked(DogTrials x, int what, int k, long... due) {
        for (int judge = 0; judge < due.length; judge++) {
            Check.due("scale(" + judge + ", " + what + ", " + k + ")", x.scale(judge, what, k), due[judge]);
        }
    }

    private static void nothingTold() {
        Check.sentence("of a JUDGE alone 0: without a TRIAL, a RUN, a CARD");
        DogTrials x = Check.ground(3, 1, 1);
        Check.rules(x, RULES);
        x.trial(0, 0, 1);
        x.trial(0, 0, 2);
        x.run(1, 0, 0, 0, 0);
        asked(x, 0, 0, 0, 0, 0);
        asked(x, 1, 0, 0, 0, 0);
        asked(x, 2, 0, 0, 1, 2);
    }

    private static void alone() {
        Check.sentence("of a JUDGE alone 0: DOGS that run under no other one");
        DogTrials x = judges(2);
        Check.scored(x, 0, 0, 0, 50);
        Check.scored(x, 1, 1, 0, 20);
        asked(x, 0, 0, 0, 0);
        asked(x, 1, 0, 0, 0);
        asked(x, 2, 0, 0, 1);
    }

    private static void leastNumber() {
        Check.sentence("some RUN that COUNTS, the TOTAL of that of the least number");
        DogTrials x = judges(2);
        Check.scored(x, 0, 0, 0, 50);
        Check.scored(x, 0, 0, 0, 90);
        Check.scored(x, 1, 0, 0, 40);
        Check.scored(x, 1, 0, 0, 0);
        asked(x, 0, 0, 5000, -5000);
        Check.card(x, 0, "retired;");
        asked(x, 0, 0, 25000, -25000);
        Check.card(x, 2, "retired;");
        asked(x, 0, 0, 45000, -45000);
        Check.card(x, 3, "retired;");
        asked(x, 0, 0, 0, 0);
    }

    private static void oneOfManyTrials() {
        Check.sentence("under each JUDGE in TRIALS under whom it has some RUN: of several TRIALS one TOTAL");
        DogTrials x = judges(2);
        x.trial(0, 999, 0);
        Check.scored(x, 2, 0, 0, 30);
        Check.scored(x, 0, 0, 0, 80);
        Check.scored(x, 1, 0, 0, 10);
        asked(x, 0, 0, 10000, -10000);
        asked(x, 1, 0, 1, 1);
    }

    private static void cutDown() {
        Check.sentence("A SCALE is told in thousandths, cut down (towards the less)");
        DogTrials x = judges(2);
        for (int dog = 0; dog < 3; dog++) {
            Check.scored(x, 0, dog, 0, 10);
            Check.scored(x, 1, dog, 0, dog == 0 ? 11 : 10);
        }
        asked(x, 0, 0, -167, 166);
        DogTrials y = judges(3);
        Check.scored(y, 0, 0, 0, 11);
        Check.scored(y, 1, 0, 0, 10);
        Check.scored(y, 2, 0, 0, 10);
        asked(y, 0, 0, 666, -334, -334);
        DogTrials z = judges(2);
        Check.scored(z, 0, 0, 0, 11);
        Check.scored(z, 1, 0, 0, 10);
        asked(z, 0, 0, 500, -500);
        DogTrials whole = judges(3);
        Check.scored(whole, 0, 0, 0, 13);
        Check.scored(whole, 1, 0, 0, 10);
        Check.scored(whole, 2, 0, 0, 10);
        asked(whole, 0, 0, 2000, -1000, -1000);
    }

    private static void met() {
        Check.sentence("MET: how many such pairs a JUDGE is in");
        DogTrials x = judges(4);
        for (int judge = 0; judge < 3; judge++) {
            Check.scored(x, judge, 0, 0, 10);
        }
        asked(x, 1, 0, 2, 2, 2, 0);
        Check.scored(x, 0, 1, 0, 10);
        Check.scored(x, 1, 1, 0, 10);
        asked(x, 1, 0, 3, 3, 2, 0);
        Check.scored(x, 0, 1, 0, 20);
        asked(x, 1, 0, 3, 3, 2, 0);
        Check.scored(x, 3, 1, 0, 10);
        asked(x, 1, 0, 4, 4, 2, 2);
    }

    private static void joined() {
        Check.sentence("JUDGES who are so joined, over however many, are one GROUP");
        DogTrials x = judges(6);
        int[] chain = {5, 2, 4, 1, 3, 0};
        for (int i = 0; i < 5; i++) {
            Check.scored(x, chain[i], i, 0, 10 * i + 30);
            Check.scored(x, chain[i + 1], i, 0, 10 * i + 24);
        }
        asked(x, 2, 0, 0, 0, 0, 0, 0, 0);
        asked(x, 0, 0, -15000, -3000, 9000, -9000, 3000, 15000);
        asked(x, 1, 0, 1, 2, 2, 2, 2, 1);
    }

    private static void leastOfTheGroup() {
        Check.sentence("2 the least number of a JUDGE of its GROUP");
        DogTrials x = judges(6);
        Check.scored(x, 5, 0, 0, 10);
        Check.scored(x, 4, 0, 0, 10);
        asked(x, 2, 0, 0, 1, 2, 3, 4, 4);
        Check.scored(x, 4, 1, 0, 10);
        Check.scored(x, 2, 1, 0, 10);
        asked(x, 2, 0, 0, 1, 2, 3, 2, 2);
        Check.scored(x, 5, 2, 0, 10);
        Check.scored(x, 0, 2, 0, 10);
        asked(x, 2, 0, 0, 1, 0, 3, 0, 0);
        Check.scored(x, 1, 3, 0, 10);
        Check.scored(x, 3, 3, 0, 10);
        asked(x, 2, 0, 0, 1, 0, 1, 0, 0);
    }

    private static void twoGroups() {
        Check.sentence("in a GROUP the SCALES s are those numbers, 0 together");
        DogTrials x = judges(6);
        Check.scored(x, 0, 0, 0, 30);
        Check.scored(x, 3, 0, 0, 10);
        Check.scored(x, 1, 1, 0, 50);
        Check.scored(x, 5, 1, 0, 80);
        asked(x, 0, 0, 10000, -15000, 0, -10000, 0, 15000);
        Check.scored(x, 5, 2, 0, 10);
        Check.scored(x, 2, 2, 0, 10);
        asked(x, 0, 0, 10000, -20000, 10000, -10000, 0, 10000);
    }

    /** Each DOG's TOTAL under each JUDGE, NONE where it doesn't run. */
    private static int[][] noTotals() {
        int[][] totals = new int[24][6];
        for (int[] row : totals) {
            java.util.Arrays.fill(row, NONE);
        }
        return totals;
    }

    private static void mostJudges() {
        Check.sentence("SCALES of 6 JUDGES of one GROUP");
        DogTrials x = judges(6);
        int[][] totals = noTotals();
        for (int dog = 0; dog < 10; dog++) {
            for (int judge = 0; judge < 6; judge++) {
                if ((dog + judge) % 3 != 0) {
                    totals[dog][judge] = (dog * 37 + judge * judge * 11) % 91;
                    Check.scored(x, judge, dog, 0, totals[dog][judge]);
                }
            }
        }
        for (int judge = 0; judge < 6; judge++) {
            Check.due("scale(" + judge + ", 0, 0)", x.scale(judge, 0, 0), Fractions.scale(totals, judge));
        }
    }

    private static void mostDogs() {
        Check.sentence("SCALES by 24 DOGS");
        DogTrials x = judges(2);
        int[][] totals = noTotals();
        for (int dog = 0; dog < 24; dog++) {
            for (int judge = 0; judge < 2; judge++) {
                totals[dog][judge] = judge == 0 ? 90 : dog;
                Check.scored(x, judge, dog, 0, totals[dog][judge]);
            }
        }
        asked(x, 1, 0, 24, 24);
        asked(x, 0, 0, 39250, -39250);
        Check.due("another way", x.scale(0, 0, 0), Fractions.scale(totals, 0));
    }

    /** A chain of JUDGES, each DOG between two of them; 40 PROTESTS lift one RUN as high as it can be. */
    private static void greatestTotals() {
        Check.sentence("the greatest TOTALS that there can be");
        DogTrials x = Check.ground(6, 1, 24);
        Check.rules(x, "part a 99;part b 99;part c 99;part d 99;part e 99;part f 99;part g 99;part h 99;");
        int[][] totals = noTotals();
        for (int judge = 0; judge < 6; judge++) {
            x.trial(0, 0, judge);
        }
        for (int run = 0; run < 10; run++) {
            int dog = run / 2;
            int judge = dog + run % 2;
            x.run(judge, dog, 0, 0, 0);
            Check.card(x, run, run % 2 == 0 ? "a;b;c;d;e;f;g;h;" : "");
            totals[dog][judge] = run % 2 == 0 ? 792 : 0;
        }
        for (int i = 0; i < 40; i++) {
            x.protest(0);
            x.decide(i, 3, 50);
        }
        totals[0][0] = 2792;
        asked(x, 0, 0, 3646666, 854666, 62666, -729334, -1521334, -2313334);
        for (int judge = 0; judge < 6; judge++) {
            Check.due("scale(" + judge + ", 0, 0)", x.scale(judge, 0, 0), Fractions.scale(totals, judge));
        }
    }

    private static void knownOnDay() {
        Check.sentence("SCALES of JUDGES as known on DAY k");
        DogTrials x = judges(2);
        Check.scored(x, 0, 0, 0, 50);
        x.days(1);
        Check.scored(x, 1, 0, 0, 40);
        x.protest(0);
        x.days(1);
        x.decide(0, 3, 10);
        asked(x, 0, 0, 0, 0);
        asked(x, 1, 0, 0, 0);
        asked(x, 2, 0, 0, 1);
        asked(x, 0, 1, 5000, -5000);
        asked(x, 1, 1, 1, 1);
        asked(x, 2, 1, 0, 0);
        asked(x, 0, 2, 10000, -10000);
    }

    private static void notCounting() {
        Check.sentence("some RUN that COUNTS: VOID ones and OUT ones don't");
        DogTrials x = judges(2);
        Check.scored(x, 0, 0, 0, 50);
        Check.scored(x, 1, 0, 0, 40);
        Check.scored(x, 0, 1, 0, 50);
        Check.scored(x, 1, 1, 0, 44);
        x.days(1);
        x.protest(0);
        x.decide(0, 1, 0);
        asked(x, 0, 0, 4000, -4000);
        asked(x, 0, 1, 3000, -3000);
        x.days(1);
        x.protest(3);
        x.decide(1, 2, 0);
        asked(x, 0, 2, 0, 0);
        asked(x, 1, 2, 0, 0);
        asked(x, 2, 2, 0, 1);
    }

    private static void noSuchJudge() {
        Check.sentence("scale: NoSuchElementException: no such JUDGE (as everywhere; ahead of IllegalArgumentException)");
        DogTrials x = Check.ground(3, 0, 0);
        for (int judge : new int[] {-1, 3, 6, Integer.MIN_VALUE, Integer.MAX_VALUE}) {
            Check.noSuchElement(x, "JUDGE " + judge, () -> x.scale(judge, 0, 0));
            Check.noSuchElement(x, "JUDGE " + judge + " on no DAY", () -> x.scale(judge, 0, 1));
        }
        Check.due("the last one", x.scale(2, 2, 0), 2);
    }

    private static void noSuchWhat() {
        Check.sentence("scale: NoSuchElementException: no such what");
        DogTrials x = Check.ground(1, 0, 0);
        for (int what : new int[] {-1, 3, Integer.MIN_VALUE, Integer.MAX_VALUE}) {
            Check.noSuchElement(x, "what " + what, () -> x.scale(0, what, 0));
            Check.noSuchElement(x, "what " + what + " on no DAY", () -> x.scale(0, what, 1));
        }
        for (int what = 0; what <= 2; what++) {
            Check.due("what " + what, x.scale(0, what, 0), 0);
        }
    }

    private static void noSuchDay() {
        Check.sentence("scale, luck: IllegalArgumentException likewise: no such DAY (0 to TODAY)");
        DogTrials x = judges(1);
        x.days(7);
        for (int k : new int[] {-1, 8, 999, Integer.MIN_VALUE, Integer.MAX_VALUE}) {
            for (int what = 0; what <= 2; what++) {
                int w = what;
                Check.illegalArgument("scale(0, " + what + ", " + k + ")", () -> x.scale(0, w, k));
            }
            Check.illegalArgument(x, "luck on DAY " + k, () -> x.luck(0, 0, k));
        }
        for (int k : new int[] {0, 7}) {
            Check.due("scale on DAY " + k, x.scale(0, 0, k), 0);
            Check.due("luck on DAY " + k, x.luck(0, 0, k), NO_LUCK);
        }
    }

    private static void noneAtThatHour() {
        Check.sentence("luck: -1000000: there is none at that HOUR");
        DogTrials x = judges(2);
        Check.due("no RUN at all", x.luck(0, 9, 0), NO_LUCK);
        x.run(0, 0, 0, 9, 0);
        Check.due("a RUN that isn't known", x.luck(0, 9, 0), NO_LUCK);
        Check.card(x, 0, "a;");
        Check.due("one alone", x.luck(0, 9, 0), 0);
        Check.due("the HOUR ahead", x.luck(0, 8, 0), NO_LUCK);
        Check.due("the HOUR behind", x.luck(0, 10, 0), NO_LUCK);
        Check.due("another TRIAL", x.luck(1, 9, 0), NO_LUCK);
        Check.scored(x, 1, 0, 8, 40);
        Check.due("the other TRIAL's RUN", x.luck(0, 8, 0), NO_LUCK);
    }

    private static void firstAndLastHour() {
        Check.sentence("LUCK of an HOUR (0 to 23)");
        DogTrials x = judges(1);
        Check.scored(x, 0, 0, 0, 10);
        Check.scored(x, 0, 1, 23, 20);
        Check.due("HOUR 0", x.luck(0, 0, 0), -5000);
        Check.due("HOUR 23", x.luck(0, 23, 0), 5000);
    }

    private static void luckCutDown() {
        Check.sentence("LUCK .. in thousandths, cut down likewise (towards the less)");
        DogTrials x = judges(1);
        Check.scored(x, 0, 0, 5, 11);
        Check.scored(x, 0, 1, 6, 10);
        Check.scored(x, 0, 2, 6, 10);
        Check.due("above 0", x.luck(0, 5, 0), 666);
        Check.due("below 0", x.luck(0, 6, 0), -334);
        DogTrials y = judges(1);
        Check.scored(y, 0, 0, 5, 11);
        Check.scored(y, 0, 1, 5, 10);
        Check.scored(y, 0, 2, 6, 10);
        Check.due("of two of three", y.luck(0, 5, 0), 166);
        Check.due("of one of three", y.luck(0, 6, 0), -334);
        DogTrials z = judges(1);
        Check.scored(z, 0, 0, 5, 13);
        Check.scored(z, 0, 1, 6, 10);
        Check.scored(z, 0, 2, 6, 10);
        Check.due("exactly", z.luck(0, 5, 0), 2000);
        Check.due("exactly, below 0", z.luck(0, 6, 0), -1000);
    }

    private static void luckOfAll() {
        Check.sentence("the mean of TOTALS of RUNS that COUNT at that HOUR, less that of all that COUNT there");
        DogTrials x = judges(1);
        for (int i = 0; i < 5; i++) {
            Check.scored(x, 0, i, 12, 10 * i);
        }
        Check.due("all at that HOUR", x.luck(0, 12, 0), 0);
        Check.scored(x, 0, 5, 13, 80);
        Check.due("five of six", x.luck(0, 12, 0), -10000);
        Check.due("one of six", x.luck(0, 13, 0), 50000);
        Check.scored(x, 0, 5, 13, 80);
        Check.due("a DOG's second RUN", x.luck(0, 13, 0), 42857);
    }

    private static void luckKnownOnDay() {
        Check.sentence("LUCK .. as known on DAY k");
        DogTrials x = judges(1);
        Check.scored(x, 0, 0, 5, 50);
        x.days(1);
        Check.scored(x, 0, 1, 6, 40);
        x.days(1);
        x.protest(1);
        x.decide(0, 3, 4);
        int[] due = {0, 5000, 3000};
        int[] others = {NO_LUCK, -5000, -3000};
        for (int k = 0; k <= 2; k++) {
            Check.due("HOUR 5 on DAY " + k, x.luck(0, 5, k), due[k]);
            Check.due("HOUR 6 on DAY " + k, x.luck(0, 6, k), others[k]);
        }
    }

    private static void luckNotCounting() {
        Check.sentence("LUCK: RUNS that COUNT: VOID ones and OUT ones don't");
        DogTrials x = judges(1);
        Check.scored(x, 0, 0, 5, 50);
        Check.scored(x, 0, 1, 6, 40);
        Check.scored(x, 0, 2, 7, 0);
        x.protest(2);
        x.decide(0, 1, 0);
        Check.due("a VOID one isn't in the mean", x.luck(0, 5, 0), 5000);
        Check.due("the HOUR of a VOID one", x.luck(0, 7, 0), NO_LUCK);
        Check.card(x, 1, "retired;");
        Check.due("one that is OUT isn't in the mean", x.luck(0, 5, 0), 0);
        Check.due("the HOUR of one that is OUT", x.luck(0, 6, 0), NO_LUCK);
        Check.card(x, 0, "retired;");
        Check.due("none counts at all", x.luck(0, 5, 0), NO_LUCK);
    }

    private static void luckRefuses() {
        Check.sentence("luck: NoSuchElementException: no such TRIAL, HOUR (ahead of IllegalArgumentException)");
        DogTrials x = Check.ground(1, 0, 0);
        Check.rules(x, RULES);
        x.trial(0, 0, 0);
        for (int bad : new int[] {-1, 24, 25, Integer.MIN_VALUE, Integer.MAX_VALUE}) {
            Check.noSuchElement(x, "HOUR " + bad, () -> x.luck(0, bad, 0));
            Check.noSuchElement("HOUR " + bad + " on no DAY", () -> x.luck(0, bad, 1));
        }
        for (int bad : new int[] {-1, 1, 20, Integer.MIN_VALUE, Integer.MAX_VALUE}) {
            Check.noSuchElement(x, "TRIAL " + bad, () -> x.luck(bad, 0, 0));
            Check.noSuchElement("TRIAL " + bad + " on no DAY", () -> x.luck(bad, 0, -1));
        }
        Check.due("HOUR 0", x.luck(0, 0, 0), NO_LUCK);
        Check.due("HOUR 23", x.luck(0, 23, 0), NO_LUCK);
    }

    private static void greatestLuck() {
        Check.sentence("LUCK of 120 RUNS, one of them as high as it can be");
        DogTrials x = Check.ground(1, 1, 1);
        Check.rules(x, "part a 99;part b 99;part c 99;part d 99;part e 99;part f 99;part g 99;part h 99;");
        x.trial(0, 0, 0);
        for (int run = 0; run < 120; run++) {
            x.run(0, 0, 0, run == 0 ? 1 : 2, 0);
            Check.card(x, run, run == 0 ? "a;b;c;d;e;f;g;h;" : "");
        }
        for (int i = 0; i < 40; i++) {
            x.protest(0);
            x.decide(i, 3, 50);
        }
        Check.due("the highest", x.luck(0, 1, 0), 2768733);
        Check.due("the others", x.luck(0, 2, 0), -23267);
    }
}
