import java.util.Random;

/** Promises 24 (scale) and 25 (luck). */
final class ScaleTest {

    public static void main(String[] args) {
        pairs();
        firstRuns();
        groups();
        knownOn();
        wrong();
        againstFractions();
        luck();
        Check.end();
    }

    private static DogTrials judges(int judges, int dogs) {
        DogTrials x = Check.ground(judges, 1, dogs);
        Check.due("rules", Check.rules(x, "part a 90; fault f off n;"), 0);
        for (int i = 0; i < judges; i++) {
            x.trial(0, 0, i);
        }
        return x;
    }

    private static int scored(DogTrials x, int trial, int dog, int hour, int total) {
        int run = x.run(trial, dog, 0, hour, 0);
        Check.due("card", Check.card(x, run, "a f " + (90 - total) + ";"), 0);
        return run;
    }

    private static void due(DogTrials x, int k, long... scales) {
        for (int i = 0; i < scales.length; i++) {
            Check.due("scale(" + i + ", 0, " + k + ")", x.scale(i, 0, k), scales[i]);
        }
    }

    private static void pairs() {
        DogTrials x = judges(2, 2);
        due(x, 0, 0, 0);
        scored(x, 0, 0, 0, 50);
        due(x, 0, 0, 0);
        Check.due("a JUDGE alone", x.scale(1, 2, 0), 1);
        Check.due("MET of a JUDGE alone", x.scale(1, 1, 0), 0);
        scored(x, 1, 0, 0, 49);
        due(x, 0, 500, -500);
        Check.due("MET", x.scale(0, 1, 0), 1);
        Check.due("the least of its GROUP", x.scale(1, 2, 0), 0);
        scored(x, 0, 1, 0, 20);
        scored(x, 1, 1, 0, 20);
        due(x, 0, 250, -250);
        DogTrials y = judges(2, 3);
        for (int dog = 0; dog < 3; dog++) {
            scored(y, 0, dog, 0, 10);
            scored(y, 1, dog, 0, dog == 0 ? 11 : 10);
        }
        due(y, 0, -167, 166);
    }

    /** Of each DOG under each JUDGE the RUN of the least number that counts, whichever the TRIAL is. */
    private static void firstRuns() {
        DogTrials x = judges(2, 1);
        x.trial(0, 0, 1);
        scored(x, 0, 0, 0, 50);
        int first = scored(x, 2, 0, 0, 40);
        scored(x, 1, 0, 0, 10);
        due(x, 0, 5000, -5000);
        Check.due("MET", x.scale(0, 1, 0), 1);
        x.days(1);
        x.protest(first);
        x.decide(0, 1, 0);
        due(x, 0, 5000, -5000);
        due(x, 1, 20000, -20000);
        x.protest(0);
        x.decide(1, 3, 6);
        due(x, 1, 23000, -23000);
    }

    private static void groups() {
        DogTrials x = judges(6, 5);
        scored(x, 5, 0, 0, 50);
        scored(x, 3, 0, 0, 41);
        scored(x, 3, 1, 0, 30);
        scored(x, 1, 1, 0, 27);
        scored(x, 2, 2, 0, 10);
        scored(x, 4, 2, 0, 12);
        due(x, 0, 0, -5000, -1000, -2000, 1000, 7000);
        int[] least = {0, 1, 2, 1, 2, 1};
        int[] met = {0, 1, 1, 2, 1, 1};
        for (int i = 0; i < 6; i++) {
            Check.due("least of " + i, x.scale(i, 2, 0), least[i]);
            Check.due("MET of " + i, x.scale(i, 1, 0), met[i]);
        }
        scored(x, 2, 1, 0, 27);
        Check.due("two GROUPS become one", x.scale(4, 2, 0), 1);
        Check.due("MET", x.scale(1, 1, 0), 2);
        Check.due("MET", x.scale(2, 1, 0), 3);
        Check.due("MET", x.scale(3, 1, 0), 3);
    }

    private static void knownOn() {
        DogTrials x = judges(2, 1);
        scored(x, 0, 0, 0, 50);
        x.days(2);
        scored(x, 1, 0, 0, 40);
        due(x, 2, 5000, -5000);
        due(x, 1, 0, 0);
        Check.due("MET on DAY 1", x.scale(0, 1, 1), 0);
        Check.due("GROUP on DAY 1", x.scale(1, 2, 1), 1);
        Check.card(x, 1, "a;retired;");
        due(x, 2, 0, 0);
    }

    private static void wrong() {
        DogTrials x = judges(2, 1);
        x.days(1);
        Check.noSuchElement("JUDGE 2", () -> x.scale(2, 0, 0));
        Check.noSuchElement("JUDGE -1", () -> x.scale(-1, 0, 0));
        Check.noSuchElement("what 3", () -> x.scale(0, 3, 0));
        Check.noSuchElement("what -1", () -> x.scale(0, -1, 0));
        Check.noSuchElement("what 3, no such DAY", () -> x.scale(0, 3, 2));
        Check.illegalArgument("DAY 2", () -> x.scale(0, 0, 2));
        Check.illegalArgument("DAY -1", () -> x.scale(0, 0, -1));
        Check.noSuchElement("TRIAL 2", () -> x.luck(2, 0, 0));
        Check.noSuchElement("TRIAL -1", () -> x.luck(-1, 0, 0));
        Check.noSuchElement("HOUR 24", () -> x.luck(0, 24, 0));
        Check.noSuchElement("HOUR -1", () -> x.luck(0, -1, 0));
        Check.noSuchElement("HOUR 24, no such DAY", () -> x.luck(0, 24, 2));
        Check.illegalArgument("DAY 2", () -> x.luck(0, 0, 2));
        Check.illegalArgument("DAY -1", () -> x.luck(0, 0, -1));
    }

    private static void againstFractions() {
        Random random = new Random(24);
        for (int round = 0; round < 40; round++) {
            int dogs = 1 + random.nextInt(24);
            DogTrials x = Check.ground(6, 1, dogs);
            StringBuilder rules = new StringBuilder();
            for (char c = 'a'; c < 'i'; c++) {
                rules.append("part ").append(c).append(" 99;");
            }
            Check.rules(x, rules + "fault f off n;");
            for (int i = 0; i < 6; i++) {
                x.trial(0, 0, i);
            }
            int[][] totals = new int[24][6];
            for (int[] row : totals) {
                java.util.Arrays.fill(row, -1);
            }
            int runs = 1 + random.nextInt(120);
            for (int run = 0; run < runs; run++) {
                int judge = random.nextInt(round % 3 == 0 ? 6 : 4);
                int dog = random.nextInt(dogs);
                int parts = round % 2 == 0 ? random.nextInt(2) * 8 : random.nextInt(9);
                x.run(judge, dog, 0, 0, 0);
                StringBuilder card = new StringBuilder();
                int total = 0;
                for (int p = 0; p < parts; p++) {
                    int off = round % 2 == 0 ? 0 : random.nextInt(99);
                    card.append((char) ('a' + p)).append(" f ").append(off).append(';');
                    total += 99 - off;
                }
                Check.due("card", Check.card(x, run, card.toString()), 0);
                totals[dog][judge] = totals[dog][judge] < 0 ? total : totals[dog][judge];
            }
            for (int judge = 0; judge < 6; judge++) {
                Check.due("scale " + round + ", " + judge, x.scale(judge, 0, 0), Fractions.scale(totals, judge));
            }
        }
    }

    private static void luck() {
        DogTrials x = judges(2, 3);
        Check.due("nothing at all", x.luck(0, 0, 0), -1000000);
        scored(x, 0, 0, 23, 50);
        Check.due("alone", x.luck(0, 23, 0), 0);
        Check.due("another HOUR", x.luck(0, 22, 0), -1000000);
        Check.due("another TRIAL", x.luck(1, 23, 0), -1000000);
        scored(x, 0, 1, 0, 49);
        scored(x, 0, 2, 0, 49);
        Check.due("towards more", x.luck(0, 23, 0), 666);
        Check.due("towards less", x.luck(0, 0, 0), -334);
        scored(x, 1, 0, 0, 90);
        Check.due("another TRIAL's RUNS don't count", x.luck(0, 0, 0), -334);
        x.days(1);
        x.protest(1);
        x.decide(0, 2, 0);
        Check.due("one less counts", x.luck(0, 0, 1), -500);
        Check.due("the DAY ahead", x.luck(0, 0, 0), -334);
        x.protest(2);
        x.decide(1, 3, 50);
        Check.due("PROTESTS add", x.luck(0, 0, 1), 24500);
        Check.due("PROTESTS add", x.luck(0, 23, 1), -24500);
        x.protest(2);
        x.decide(2, 1, 0);
        Check.due("none counts at that HOUR", x.luck(0, 0, 1), -1000000);
    }
}
