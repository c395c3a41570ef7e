/** Promises 17 (ladder) and 18 (sum). */
final class LadderTest {
    private static final String RULES = "part a 90; fault f off n;";

    public static void main(String[] args) {
        empty();
        sums();
        orders();
        daysOfTrials();
        knownOn();
        rulesToldLast();
        wrong();
        Check.end();
    }

    /** A RUN of the DOG in the TRIAL with this TOTAL, at most 90. */
    private static int scored(DogTrials x, int trial, int dog, int total) {
        int run = x.run(trial, dog, 0, 0, 0);
        Check.due("card", Check.card(x, run, "a f " + (90 - total) + ";"), 0);
        return run;
    }

    private static void empty() {
        DogTrials x = Check.ground(1, 1, 3);
        Check.due("no RULES", x.ladder(0, 999, -1, 0), 0);
        Check.due("sum", x.sum(2, 0, 999, 0), -1);
        Check.noSuchElement("no DOG in it", () -> x.ladder(0, 999, 0, 0));
    }

    private static void sums() {
        DogTrials x = Check.ground(1, 1, 3);
        Check.rules(x, RULES);
        x.trial(0, 0, 0);
        int[] totals = {10, 50, 20, 50, 30, 5, 40};
        for (int total : totals) {
            scored(x, 0, 0, total);
        }
        Check.due("the 5 greatest", x.sum(0, 0, 999, 0), 190);
        scored(x, 0, 1, 7);
        scored(x, 0, 1, 0);
        Check.due("all, if there are fewer", x.sum(1, 0, 999, 0), 7);
        Check.due("not in it", x.sum(2, 0, 999, 0), -1);
        scored(x, 0, 2, 0);
        Check.due("in it with 0", x.sum(2, 0, 999, 0), 0);
        Check.due("how many", x.ladder(0, 999, -1, 0), 3);
        Check.due("third", x.ladder(0, 999, 2, 0), 2);
        Check.rules(x, RULES + "best 2;");
        Check.due("best 2", x.sum(0, 0, 999, 0), 100);
        Check.rules(x, RULES + "best 1; best 3;");
        Check.due("the last best counts", x.sum(0, 0, 999, 0), 140);
        Check.rules(x, RULES + "best 20;");
        Check.due("best 20", x.sum(0, 0, 999, 0), 205);
        for (int i = 0; i < 20; i++) {
            scored(x, 0, 0, 60 + i % 2);
        }
        Check.due("20 of more", x.sum(0, 0, 999, 0), 1210);
    }

    private static void orders() {
        DogTrials x = Check.ground(1, 1, 6);
        Check.rules(x, RULES);
        x.trial(0, 0, 0);
        scored(x, 0, 5, 30);
        scored(x, 0, 1, 10);
        scored(x, 0, 1, 20);
        scored(x, 0, 2, 30);
        scored(x, 0, 3, 31);
        scored(x, 0, 0, 1);
        int[] due = {3, 2, 5, 1, 0};
        for (int place = 0; place < due.length; place++) {
            Check.due("place " + place, x.ladder(0, 0, place, 0), due[place]);
        }
        Check.due("how many", x.ladder(0, 0, -1, 0), 5);
        Check.noSuchElement("place 5", () -> x.ladder(0, 0, 5, 0));
    }

    private static void daysOfTrials() {
        DogTrials x = Check.ground(1, 1, 2);
        Check.rules(x, RULES);
        x.trial(0, 5, 0);
        x.trial(0, 9, 0);
        x.trial(0, 999, 0);
        scored(x, 0, 0, 1);
        scored(x, 1, 0, 2);
        scored(x, 2, 0, 4);
        Check.due("all", x.sum(0, 0, 999, 0), 7);
        Check.due("5 to 9", x.sum(0, 5, 9, 0), 3);
        Check.due("6 to 9", x.sum(0, 6, 9, 0), 2);
        Check.due("5 to 8", x.sum(0, 5, 8, 0), 1);
        Check.due("6 to 8", x.sum(0, 6, 8, 0), -1);
        Check.due("9 to 5", x.sum(0, 9, 5, 0), -1);
        Check.due("any numbers", x.sum(0, Integer.MIN_VALUE, Integer.MAX_VALUE, 0), 7);
        Check.due("none", x.ladder(6, 8, -1, 0), 0);
        Check.due("one", x.ladder(9, 9, 0, 0), 0);
    }

    private static void knownOn() {
        DogTrials x = Check.ground(1, 1, 3);
        Check.rules(x, RULES + "out total < 3;");
        x.trial(0, 0, 0);
        scored(x, 0, 0, 10);
        scored(x, 0, 1, 2);
        Check.due("OUT", x.sum(1, 0, 0, 0), -1);
        x.days(1);
        scored(x, 0, 0, 20);
        x.protest(0);
        x.decide(0, 3, 5);
        Check.due("on DAY 1", x.sum(0, 0, 0, 1), 35);
        Check.due("on DAY 0", x.sum(0, 0, 0, 0), 10);
        x.days(1);
        x.protest(0);
        x.decide(1, 1, 0);
        Check.due("VOID", x.sum(0, 0, 0, 2), 20);
        Check.due("not yet VOID", x.sum(0, 0, 0, 1), 35);
    }

    private static void rulesToldLast() {
        DogTrials x = Check.ground(1, 1, 1);
        Check.rules(x, RULES + "best 1;");
        x.trial(0, 0, 0);
        for (int i = 1; i < 9; i++) {
            scored(x, 0, 0, i);
        }
        Check.due("best 1", x.sum(0, 0, 0, 0), 8);
        Check.rules(x, RULES);
        Check.due("5 without, by those told last", x.sum(0, 0, 0, 0), 30);
        Check.due("a FAULT", Check.rules(x, RULES + "best 2; best;"), -2);
        Check.due("RULES with a FAULT are none", x.sum(0, 0, 0, 0), 30);
    }

    private static void wrong() {
        DogTrials x = Check.ground(1, 1, 2);
        x.days(3);
        Check.illegalArgument("ladder, DAY 4", () -> x.ladder(0, 0, -1, 4));
        Check.illegalArgument("ladder, DAY -1", () -> x.ladder(0, 0, -1, -1));
        Check.illegalArgument("ladder, DAY 4, no such place", () -> x.ladder(0, 0, 7, 4));
        Check.noSuchElement("ladder, place -2", () -> x.ladder(0, 0, -2, 3));
        Check.noSuchElement("ladder, place 2^31 - 1", () -> x.ladder(0, 0, Integer.MAX_VALUE, 3));
        Check.noSuchElement("sum, no such DOG", () -> x.sum(2, 0, 0, 3));
        Check.noSuchElement("sum, DOG -1", () -> x.sum(-1, 0, 0, 3));
        Check.noSuchElement("sum, no such DOG, no such DAY", () -> x.sum(2, 0, 0, 4));
        Check.illegalArgument("sum, DAY 4", () -> x.sum(1, 0, 0, 4));
        Check.illegalArgument("sum, DAY -1", () -> x.sum(1, 0, 0, -1));
    }
}
