/** Boundary cases of promises 17 (ladder) and 18 (sum). */
final class LadderEdgesTest {
    private static final int NONE = DogTrials.NONE;
    private static final String RULES = "part a 90;fault f off n;";

    public static void main(String[] args) {
        empty();
        fiveWithout();
        bestOne();
        bestTwenty();
        fewer();
        toldLast();
        firstAndLastDay();
        turnedDays();
        knownOnDay();
        notCounting();
        greaterSum();
        greaterSingle();
        lesserNumber();
        allDogs();
        dogsWithout();
        places();
        noSuchDay();
        noSuchDog();
        Check.end();
    }

    private static void empty() {
        Check.sentence("place NONE: how many are in it; NONE: it isn't in it: with nothing told");
        DogTrials x = Check.ground(0, 0, 1);
        Check.due("how many", x.ladder(0, 999, NONE, 0), 0);
        Check.noSuchElement(x, "the first", () -> x.ladder(0, 999, 0, 0));
        Check.due("sum", x.sum(0, 0, 999, 0), NONE);
        DogTrials y = Check.trial(RULES, 1);
        Check.due("a RUN without a CARD", y.ladder(0, 999, NONE, 0), 0);
        Check.due("its DOG's sum", y.sum(0, 0, 999, 0), NONE);
    }

    private static void fiveWithout() {
        Check.sentence("the sum of its 'best' so many greatest TOTALS (5 without)");
        DogTrials x = Check.trial(RULES, 0);
        int[] totals = {3, 1, 4, 10, 5};
        int sum = 0;
        for (int total : totals) {
            Check.scored(x, 0, 0, 0, total);
            sum += total;
            Check.due("all so far", x.sum(0, 0, 0, 0), sum);
        }
        Check.scored(x, 0, 0, 0, 1);
        Check.due("the 6th is no greater", x.sum(0, 0, 0, 0), 23);
        Check.scored(x, 0, 0, 0, 2);
        Check.due("the 7th is greater than one", x.sum(0, 0, 0, 0), 24);
        Check.scored(x, 0, 0, 0, 90);
        Check.due("the 8th is greater than all", x.sum(0, 0, 0, 0), 112);
    }

    private static void bestOne() {
        Check.sentence("'best' 1");
        DogTrials x = Check.trial(RULES + "best 1;", 0);
        int[] totals = {5, 4, 5, 6, 0};
        int[] due = {5, 5, 5, 6, 6};
        for (int i = 0; i < totals.length; i++) {
            Check.scored(x, 0, 0, 0, totals[i]);
            Check.due("sum", x.sum(0, 0, 0, 0), due[i]);
        }
    }

    private static void bestTwenty() {
        Check.sentence("'best' 20");
        DogTrials x = Check.trial(RULES + "best 20;", 0);
        int sum = 0;
        for (int i = 0; i < 20; i++) {
            Check.scored(x, 0, 0, 0, 30 + i);
            sum += 30 + i;
        }
        Check.due("20 of 20", x.sum(0, 0, 0, 0), sum);
        Check.scored(x, 0, 0, 0, 30);
        Check.due("20 of 21, the last no greater", x.sum(0, 0, 0, 0), sum);
        Check.scored(x, 0, 0, 0, 35);
        Check.due("20 of 22", x.sum(0, 0, 0, 0), sum + 5);
        DogTrials y = Check.trial(RULES + "best 19;", 0);
        for (int i = 0; i < 20; i++) {
            Check.scored(y, 0, 0, 0, 1);
        }
        Check.due("19 of 20", y.sum(0, 0, 0, 0), 19);
    }

    private static void fewer() {
        Check.sentence("(all, if there are fewer)");
        DogTrials x = Check.trial(RULES + "best 4;", 0);
        for (int i = 1; i <= 5; i++) {
            Check.scored(x, 0, 0, 0, 1);
            Check.due("with " + i, x.sum(0, 0, 0, 0), Math.min(i, 4));
        }
    }

    private static void toldLast() {
        Check.sentence("by the RULES told last");
        DogTrials x = Check.trial(RULES + "best 1;", 0);
        for (int i = 0; i < 7; i++) {
            Check.scored(x, 0, 0, 0, 1);
        }
        x.days(1);
        Check.due("best 1", x.sum(0, 0, 0, 1), 1);
        Check.rules(x, "part b 1;best 3;");
        Check.due("best 3", x.sum(0, 0, 0, 1), 3);
        Check.due("best 3 on a DAY ahead", x.sum(0, 0, 0, 0), 3);
        Check.rules(x, "part b 1;");
        Check.due("5 without", x.sum(0, 0, 0, 0), 5);
        Check.rules(x, "part b 1;best 6;best 0;");
        Check.due("a FAULT tells none", x.sum(0, 0, 0, 0), 5);
        Check.rules(x, "part b 1;best 6;");
        Check.rules(x, "part b 1;best 7;");
        Check.rules(x, "part b 1;best 2;");
        Check.due("the 6th", x.sum(0, 0, 0, 0), 2);
        Check.due("no 7th", Check.rules(x, "part b 1;best 4;"), -9);
        Check.due("the 6th still", x.sum(0, 0, 0, 0), 2);
    }

    private static void firstAndLastDay() {
        Check.sentence("LADDER of DAYS a to b: in TRIALS on these DAYS");
        DogTrials x = Check.ground(1, 1, 1);
        Check.rules(x, RULES);
        x.trial(0, 0, 0);
        x.trial(0, 500, 0);
        x.trial(0, 999, 0);
        Check.scored(x, 0, 0, 0, 1);
        Check.scored(x, 1, 0, 0, 2);
        Check.scored(x, 2, 0, 0, 4);
        int[][] due = {{0, 999, 7}, {0, 998, 3}, {1, 999, 6}, {1, 998, 2}, {0, 500, 3}, {0, 499, 1}, {500, 999, 6},
            {501, 999, 4}, {500, 500, 2}, {0, 0, 1}, {999, 999, 4}, {1, 499, NONE}, {501, 998, NONE},
            {Integer.MIN_VALUE, Integer.MAX_VALUE, 7}, {-1, 1000, 7}, {-5, -1, NONE}, {1000, Integer.MAX_VALUE, NONE}};
        for (int[] d : due) {
            Check.due("sum of " + d[0] + " to " + d[1], x.sum(0, d[0], d[1], 0), d[2]);
            Check.due("how many of " + d[0] + " to " + d[1], x.ladder(d[0], d[1], NONE, 0), d[2] == NONE ? 0 : 1);
        }
    }

    private static void turnedDays() {
        Check.sentence("LADDER of DAYS a to b: none, if b is ahead of a");
        DogTrials x = Check.trial(RULES, 0);
        Check.scored(x, 0, 0, 0, 5);
        Check.due("1 to 0", x.sum(0, 1, 0, 0), NONE);
        Check.due("0 to -1", x.sum(0, 0, -1, 0), NONE);
        Check.due("the greatest to the least", x.ladder(Integer.MAX_VALUE, Integer.MIN_VALUE, NONE, 0), 0);
        Check.noSuchElement(x, "the first of none", () -> x.ladder(1, 0, 0, 0));
    }

    private static void knownOnDay() {
        Check.sentence("as known on DAY k");
        DogTrials x = Check.trial(RULES, 0);
        x.days(1);
        Check.scored(x, 0, 0, 0, 5);
        x.days(1);
        Check.card(x, 0, "a f 80;");
        x.protest(0);
        x.days(1);
        x.decide(0, 3, 7);
        int[] due = {NONE, 5, 10, 17};
        for (int k = 0; k <= 3; k++) {
            Check.due("sum on DAY " + k, x.sum(0, 0, 0, k), due[k]);
            Check.due("how many on DAY " + k, x.ladder(0, 0, NONE, k), k == 0 ? 0 : 1);
        }
    }

    private static void notCounting() {
        Check.sentence("TOTALS of RUNS that COUNT");
        DogTrials x = Check.trial(RULES + "limit 9;", 0);
        for (int i = 0; i < 4; i++) {
            Check.scored(x, 0, i, 0, 50);
        }
        Check.card(x, 0, "a;retired;");
        Check.card(x, 1, "a;time 10;");
        x.protest(2);
        x.decide(0, 1, 0);
        x.protest(3);
        x.decide(1, 2, 0);
        Check.due("none counts", x.ladder(0, 0, NONE, 0), 0);
        Check.scored(x, 0, 2, 0, 0);
        Check.due("one that does, with 0", x.ladder(0, 0, NONE, 0), 1);
        Check.due("it is in it", x.sum(2, 0, 0, 0), 0);
        Check.due("it is the first", x.ladder(0, 0, 0, 0), 2);
    }

    private static void greaterSum() {
        Check.sentence("ORDER: greater sum first");
        DogTrials x = Check.trial(RULES, 0);
        Check.scored(x, 0, 0, 0, 60);
        Check.scored(x, 0, 1, 0, 30);
        Check.scored(x, 0, 1, 0, 31);
        Check.due("the first", x.ladder(0, 0, 0, 0), 1);
        Check.due("the second", x.ladder(0, 0, 1, 0), 0);
    }

    private static void greaterSingle() {
        Check.sentence("of like ones the greater single TOTAL");
        DogTrials x = Check.trial(RULES + "best 2;", 0);
        Check.scored(x, 0, 0, 0, 30);
        Check.scored(x, 0, 0, 0, 30);
        Check.scored(x, 0, 1, 0, 29);
        Check.scored(x, 0, 1, 0, 31);
        Check.scored(x, 0, 2, 0, 60);
        int[] due = {2, 1, 0};
        for (int place = 0; place < 3; place++) {
            Check.due("place " + place, x.ladder(0, 0, place, 0), due[place]);
        }
    }

    private static void lesserNumber() {
        Check.sentence("then the lesser number");
        DogTrials x = Check.trial(RULES, 0);
        int[] dogs = {23, 5, 6, 0};
        for (int dog : dogs) {
            Check.scored(x, 0, dog, 0, 30);
        }
        int[] due = {0, 5, 6, 23};
        for (int place = 0; place < 4; place++) {
            Check.due("place " + place, x.ladder(0, 0, place, 0), due[place]);
        }
    }

    private static void allDogs() {
        Check.sentence("LADDER: of each DOG: all 24");
        DogTrials x = Check.trial(RULES, 0);
        for (int dog = 0; dog < 24; dog++) {
            Check.scored(x, 0, dog, 0, dog);
        }
        Check.due("how many", x.ladder(0, 0, NONE, 0), 24);
        for (int place = 0; place < 24; place++) {
            Check.due("place " + place, x.ladder(0, 0, place, 0), 23 - place);
        }
        Check.noSuchElement(x, "place 24", () -> x.ladder(0, 0, 24, 0));
        Check.due("the sum of the last", x.sum(23, 0, 0, 0), 23);
    }

    private static void dogsWithout() {
        Check.sentence("DOGS without such a RUN aren't in it");
        DogTrials x = Check.trial(RULES, 0);
        Check.scored(x, 0, 7, 0, 0);
        Check.due("how many", x.ladder(0, 0, NONE, 0), 1);
        Check.due("the first", x.ladder(0, 0, 0, 0), 7);
        Check.due("one that is in it with 0", x.sum(7, 0, 0, 0), 0);
        Check.due("one that isn't", x.sum(6, 0, 0, 0), NONE);
        Check.due("one that isn't", x.sum(8, 0, 0, 0), NONE);
        Check.noSuchElement(x, "the second", () -> x.ladder(0, 0, 1, 0));
    }

    private static void places() {
        Check.sentence("ladder: NoSuchElementException: there is none (asked behind the DAY)");
        DogTrials x = Check.trial(RULES, 0);
        Check.scored(x, 0, 3, 0, 5);
        Check.scored(x, 0, 4, 0, 6);
        Check.due("the last", x.ladder(0, 0, 1, 0), 3);
        for (int place : new int[] {-2, 2, 24, Integer.MIN_VALUE, Integer.MAX_VALUE}) {
            Check.noSuchElement(x, "place " + place, () -> x.ladder(0, 0, place, 0));
            Check.illegalArgument("place " + place + " on DAY 1", () -> x.ladder(0, 0, place, 1));
            Check.illegalArgument("place " + place + " on DAY -1", () -> x.ladder(0, 0, place, -1));
        }
    }

    private static void noSuchDay() {
        Check.sentence("ladder, sum: IllegalArgumentException: k is not 0 to TODAY");
        DogTrials x = Check.trial(RULES, 0);
        x.days(5);
        for (int k : new int[] {-1, 6, 999, Integer.MIN_VALUE, Integer.MAX_VALUE}) {
            Check.illegalArgument(x, "ladder on DAY " + k, () -> x.ladder(0, 999, NONE, k));
            Check.illegalArgument(x, "sum on DAY " + k, () -> x.sum(0, 0, 999, k));
        }
        Check.due("ladder on DAY 0", x.ladder(0, 999, NONE, 0), 0);
        Check.due("ladder TODAY", x.ladder(0, 999, NONE, 5), 0);
        Check.due("sum on DAY 0", x.sum(0, 0, 999, 0), NONE);
        Check.due("sum TODAY", x.sum(0, 0, 999, 5), NONE);
    }

    private static void noSuchDog() {
        Check.sentence("sum: NoSuchElementException: no such DOG (as everywhere; ahead of IllegalArgumentException)");
        DogTrials x = Check.ground(0, 0, 3);
        for (int dog : new int[] {-1, 3, 24, Integer.MIN_VALUE, Integer.MAX_VALUE}) {
            Check.noSuchElement(x, "DOG " + dog, () -> x.sum(dog, 0, 999, 0));
            Check.noSuchElement(x, "DOG " + dog + " on no DAY", () -> x.sum(dog, 0, 999, 1));
        }
        Check.due("the last one", x.sum(2, 0, 999, 0), NONE);
    }
}
