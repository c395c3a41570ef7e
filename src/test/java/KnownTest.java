/** Promises 13 (told), 15 (protest), 16 (decide). */
final class KnownTest {
    private static final String RULES = "part a 30; part b 30; part c 30; fault f off n; out total < 5; limit 700; tie c, time, a;";

    public static void main(String[] args) {
        asks();
        outs();
        limits();
        places();
        placesOfTrials();
        protests();
        added();
        voidAndOut();
        Check.end();
    }

    private static DogTrials oneTrial(String rules, int runs) {
        DogTrials x = Check.ground(1, 1, 24);
        Check.due("rules", Check.rules(x, rules), 0);
        x.trial(0, 0, 0);
        for (int i = 0; i < runs; i++) {
            x.run(0, i, 0, 9, 0);
        }
        return x;
    }

    private static void asks() {
        DogTrials x = oneTrial(RULES, 2);
        x.days(4);
        Check.card(x, 0, "a f 2;c;time 300;");
        int[] due = {58, 300, 0, 1, 1, 1};
        int[] unknown = {-1, -1, -1, 0, -1, -1};
        for (int what = 0; what < 6; what++) {
            Check.due("told(0, " + what + ", 4)", x.told(0, what, 4), due[what]);
            Check.due("told(0, " + what + ", 3)", x.told(0, what, 3), unknown[what]);
            Check.due("told(1, " + what + ", 4)", x.told(1, what, 4), unknown[what]);
        }
        int[] points = {28, 0, 30};
        for (int part = 0; part < 3; part++) {
            Check.due("POINTS", x.told(0, 10 + part, 4), points[part]);
            Check.due("POINTS, not known", x.told(0, 10 + part, 3), -1);
        }
        for (int what : new int[] {-1, 6, 9, 13, 17, 18, Integer.MAX_VALUE, Integer.MIN_VALUE}) {
            Check.noSuchElement("told " + what, () -> x.told(0, what, 4));
            Check.noSuchElement("told " + what + " of one that isn't known", () -> x.told(1, what, 4));
            Check.noSuchElement("told " + what + " on no DAY", () -> x.told(0, what, 5));
        }
        Check.noSuchElement("no such RUN", () -> x.told(2, 0, 4));
        Check.noSuchElement("no such RUN", () -> x.told(-1, 0, 4));
        Check.noSuchElement("no such RUN, no DAY", () -> x.told(2, 0, 5));
        Check.illegalArgument("DAY 5", () -> x.told(0, 0, 5));
        Check.illegalArgument("DAY -1", () -> x.told(0, 0, -1));
        Check.illegalArgument("DAY 5 of one that isn't known", () -> x.told(1, 3, 5));
        Check.rules(x, "part a 5;");
        x.trial(1, 0, 0);
        x.run(1, 0, 0, 0, 0);
        Check.noSuchElement("a PART of other RULES", () -> x.told(2, 11, 0));
        Check.due("a PART of its RULES", x.told(2, 10, 0), -1);
    }

    private static void outs() {
        DogTrials x = oneTrial(RULES, 5);
        Check.card(x, 0, "a f 25;");
        Check.card(x, 1, "a f 26;");
        Check.card(x, 2, "a;retired;");
        Check.card(x, 3, "a;time 700;");
        Check.card(x, 4, "a;time 701;");
        int[] due = {0, 1, 1, 0, 1};
        int[] totals = {5, 4, 30, 30, 30};
        for (int i = 0; i < 5; i++) {
            Check.due("OUT " + i, x.told(i, 2, 0), due[i]);
            Check.due("COUNTS " + i, x.told(i, 3, 0), 1 - due[i]);
            Check.due("TOTAL " + i, x.told(i, 0, 0), totals[i]);
            Check.due("POINTS " + i, x.told(i, 10, 0), totals[i]);
        }
        Check.due("PLACE", x.told(3, 4, 0), 1);
        Check.due("PLACE", x.told(0, 4, 0), 2);
        Check.due("PLACE of one that is OUT", x.told(2, 4, 0), -1);
    }

    private static void limits() {
        DogTrials x = oneTrial("part a 5; limit 500; limit 600;", 2);
        Check.card(x, 0, "time 600;");
        Check.card(x, 1, "time 601;");
        Check.due("the last limit counts", x.told(0, 2, 0), 0);
        Check.due("above it", x.told(1, 2, 0), 1);
        DogTrials y = oneTrial("part a 5;", 1);
        Check.card(y, 0, "time 99999;");
        Check.due("no limit", y.told(0, 2, 0), 0);
    }

    private static void places() {
        DogTrials x = oneTrial(RULES, 9);
        Check.card(x, 0, "a f 5;b;c f 5;time 100;");
        Check.card(x, 1, "a f 10;b;c;time 100;");
        Check.card(x, 2, "a;b f 10;c;time 99;");
        Check.card(x, 3, "a;b f 10;c;time 99;");
        Check.card(x, 4, "a f 10;b;c;time 99;");
        Check.card(x, 5, "a;b f 10;c;");
        Check.card(x, 6, "a;b;c f 11;");
        Check.card(x, 7, "a;b;c;retired;");
        int[] due = {6, 5, 2, 2, 4, 1, 7, -1, -1};
        for (int i = 0; i < due.length; i++) {
            Check.due("PLACE " + i, x.told(i, 4, 0), due[i]);
        }
        DogTrials y = oneTrial("part a 5; part b 5; fault f off n; tie b; tie a;", 2);
        Check.card(y, 0, "a f;b;");
        Check.card(y, 1, "a;b f;");
        Check.due("the last tie counts", y.told(0, 4, 0), 2);
        DogTrials z = oneTrial("part a 5; part b 5; fault f off n;", 3);
        Check.card(z, 0, "a f;b;time 5;");
        Check.card(z, 1, "a;b f;");
        Check.card(z, 2, "a;b f 2;");
        Check.due("no tie", z.told(0, 4, 0), 1);
        Check.due("no tie", z.told(1, 4, 0), 1);
        Check.due("behind two", z.told(2, 4, 0), 3);
    }

    private static void placesOfTrials() {
        DogTrials x = oneTrial(RULES, 1);
        x.trial(0, 0, 0);
        x.run(1, 0, 0, 0, 0);
        x.run(1, 1, 0, 0, 0);
        Check.card(x, 0, "a;");
        Check.card(x, 1, "a;b;");
        x.days(1);
        Check.card(x, 2, "a;b;c;");
        Check.due("in its own TRIAL", x.told(0, 4, 1), 1);
        Check.due("behind one", x.told(1, 4, 1), 2);
        Check.due("not yet known", x.told(1, 4, 0), 1);
        Check.due("not yet known", x.told(2, 4, 0), -1);
    }

    private static void protests() {
        DogTrials x = oneTrial(RULES, 2);
        Check.noSuchElement("protest(-1)", () -> x.protest(-1));
        Check.noSuchElement("protest(2)", () -> x.protest(2));
        Check.due("a RUN that isn't known", x.protest(0), -1);
        x.days(1);
        Check.card(x, 0, "a;");
        Check.due("protest", x.protest(0), 0);
        Check.noSuchElement("decide(-1)", () -> x.decide(-1, 0, 0) ? 1 : 0);
        Check.noSuchElement("decide(1)", () -> x.decide(1, 0, 0) ? 1 : 0);
        Check.noSuchElement("decide(1), wrong", () -> x.decide(1, 9, 9) ? 1 : 0);
        int[][] wrong = {{-1, 0}, {4, 0}, {0, 1}, {0, -1}, {1, 5}, {2, -5}, {3, 51}, {3, -51}, {3, Integer.MIN_VALUE},
            {3, Integer.MAX_VALUE}, {Integer.MIN_VALUE, 0}, {1, Integer.MIN_VALUE}};
        for (int[] w : wrong) {
            Check.due("decide(0, " + w[0] + ", " + w[1] + ")", x.decide(0, w[0], w[1]) ? 1 : 0, 0);
        }
        Check.due("refused", x.decide(0, 0, 0) ? 1 : 0, 1);
        Check.due("it was", x.decide(0, 1, 0) ? 1 : 0, 0);
        Check.due("nothing changed", x.told(0, 3, 1), 1);
        for (int i = 1; i < 40; i++) {
            Check.due("protest", x.protest(0), i);
        }
        Check.due("the 41st", x.protest(0), -1);
        Check.due("PROTESTS", x.count(8), 40);
        Check.due("the last one", x.decide(39, 3, 7) ? 1 : 0, 1);
        Check.due("TOTAL with 40", x.told(0, 0, 1), 37);
        Check.due("it counts with 40", x.told(0, 3, 1), 1);
    }

    private static void added() {
        DogTrials x = oneTrial(RULES, 2);
        Check.card(x, 0, "a;");
        Check.card(x, 1, "a f 26;");
        for (int i = 0; i < 4; i++) {
            x.protest(0);
        }
        x.protest(1);
        Check.due("adds nothing yet", x.told(0, 0, 0), 30);
        x.decide(0, 3, 50);
        Check.due("adds", x.told(0, 0, 0), 80);
        Check.due("POINTS stay", x.told(0, 10, 0), 30);
        x.days(1);
        x.decide(1, 3, -50);
        Check.due("takes", x.told(0, 0, 1), 30);
        Check.due("not the DAY ahead", x.told(0, 0, 0), 80);
        x.days(1);
        x.decide(2, 3, -50);
        Check.due("at least 0", x.told(0, 0, 2), 0);
        x.decide(3, 3, 25);
        Check.due("all together", x.told(0, 0, 2), 5);
        Check.due("OUT by its TOTAL before", x.told(0, 2, 2), 0);
        x.decide(4, 3, 50);
        Check.due("OUT by its TOTAL before, though it has more", x.told(1, 2, 2), 1);
        Check.due("its TOTAL", x.told(1, 0, 2), 54);
        Check.card(x, 0, "a;b;");
        Check.due("a new CARD, the PROTESTS stay", x.told(0, 0, 2), 35);
        DogTrials y = oneTrial("part a 5;", 3);
        Check.card(y, 0, "a;");
        Check.card(y, 1, "");
        Check.card(y, 2, "");
        y.protest(1);
        Check.due("PLACE ahead", y.told(1, 4, 0), 2);
        y.decide(0, 3, 6);
        Check.due("PLACE", y.told(1, 4, 0), 1);
        Check.due("PLACE", y.told(0, 4, 0), 2);
        Check.due("PLACE", y.told(2, 4, 0), 3);
    }

    private static void voidAndOut() {
        DogTrials x = oneTrial(RULES, 3);
        for (int i = 0; i < 3; i++) {
            Check.card(x, i, "a;");
            x.protest(i);
            Check.due("PLACE", x.told(i, 4, 0), 1);
        }
        x.days(5);
        x.decide(0, 1, 0);
        x.decide(1, 2, 0);
        Check.due("VOID isn't OUT", x.told(0, 2, 5), 0);
        Check.due("VOID doesn't count", x.told(0, 3, 5), 0);
        Check.due("VOID has no PLACE", x.told(0, 4, 5), -1);
        Check.due("VOID has its TOTAL", x.told(0, 0, 5), 30);
        Check.due("OUT", x.told(1, 2, 5), 1);
        Check.due("OUT doesn't count", x.told(1, 3, 5), 0);
        Check.due("OUT has no PLACE", x.told(1, 4, 5), -1);
        Check.due("the DAY ahead", x.told(0, 3, 4), 1);
        Check.due("the DAY ahead", x.told(1, 2, 4), 0);
        Check.due("the other one", x.told(2, 4, 5), 1);
        Check.due("against one that is VOID", x.protest(0), 3);
        Check.card(x, 0, "a;b;");
        Check.due("VOID stays with a new CARD", x.told(0, 3, 5), 0);
        x.run(0, 0, 0, 9, 0);
        Check.card(x, 3, "a;b;");
        Check.due("run again", x.told(3, 4, 5), 1);
        Check.due("behind it", x.told(2, 4, 5), 2);
    }
}
