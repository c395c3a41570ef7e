/** Boundary cases of promises 15 (protest) and 16 (decide) and of what PROTESTS add. */
final class ProtestEdgesTest {
    private static final int NONE = DogTrials.NONE;

    public static void main(String[] args) {
        mostProtests();
        knownToday();
        noSuchRun();
        noSuchProtest();
        hows();
        pointsOfOthers();
        pointsAdded();
        decidedOnce();
        undecided();
        atLeast0();
        allTogether();
        atMost();
        voidRuns();
        outRuns();
        voidAndOut();
        otherRuns();
        cardsBehindProtests();
        Check.end();
    }

    private static DogTrials known(int runs) {
        DogTrials x = Check.trial("part a 9;", runs);
        for (int run = 0; run < runs; run++) {
            Check.card(x, run, "a;");
        }
        return x;
    }

    private static void mostProtests() {
        Check.sentence("PROTESTS, from 0 on, at most 40; NONE: there are 40");
        DogTrials x = known(2);
        for (int i = 0; i < 40; i++) {
            Check.due("protest", x.protest(i % 2), i);
            Check.due("PROTESTS", x.count(8), i + 1);
        }
        Check.none(x, "the 41st", () -> x.protest(0));
        Check.none(x, "the 41st, against the other one", () -> x.protest(1));
        Check.holds("all that are DECIDED leave no room", x.decide(0, 0, 0));
        Check.none(x, "the 41st", () -> x.protest(0));
        Check.holds("PROTEST 39 is there", x.decide(39, 2, 0));
        Check.due("it puts RUN 1 OUT", x.told(1, 2, 0), 1);
        Check.due("and RUN 0 not", x.told(0, 2, 0), 0);
        Check.noSuchElement(x, "PROTEST 40 isn't", () -> x.decide(40, 0, 0) ? 1 : 0);
        Check.noSuchElement(x, "no such RUN", () -> x.protest(2));
    }

    private static void knownToday() {
        Check.sentence("protest: NONE: the RUN isn't known TODAY");
        DogTrials x = Check.trial("part a 9;", 2);
        Check.none(x, "without a CARD", () -> x.protest(0));
        Check.due("a CARD with a FAULT", Check.card(x, 0, "b;"), 3);
        Check.none(x, "with a FAULT alone", () -> x.protest(0));
        Check.card(x, 0, "a;");
        Check.due("with a CARD of TODAY", x.protest(0), 0);
        Check.none(x, "the other RUN", () -> x.protest(1));
        x.days(3);
        Check.due("with a CARD of another DAY", x.protest(0), 1);
        Check.none(x, "the other RUN", () -> x.protest(1));
    }

    private static void noSuchRun() {
        Check.sentence("protest: NoSuchElementException: no such RUN (as everywhere)");
        DogTrials x = known(2);
        Check.due("the last one", x.protest(1), 0);
        for (int run : new int[] {-1, 2, 120, Integer.MIN_VALUE, Integer.MAX_VALUE}) {
            Check.noSuchElement(x, "protest(" + run + ")", () -> x.protest(run));
        }
    }

    private static void noSuchProtest() {
        Check.sentence("decide: NoSuchElementException: no such PROTEST");
        DogTrials x = known(1);
        Check.noSuchElement(x, "none at all", () -> x.decide(0, 0, 0) ? 1 : 0);
        x.protest(0);
        x.protest(0);
        for (int protest : new int[] {-1, 2, 40, Integer.MIN_VALUE, Integer.MAX_VALUE}) {
            Check.noSuchElement(x, "decide(" + protest + ", 0, 0)", () -> x.decide(protest, 0, 0) ? 1 : 0);
            Check.noSuchElement(x, "decide(" + protest + ", 4, 1)", () -> x.decide(protest, 4, 1) ? 1 : 0);
        }
        Check.holds("the last one", x.decide(1, 0, 0));
    }

    private static void hows() {
        Check.sentence("DECIDED: 0 refused, 1 VOID, 2 OUT, 3 so many points; False: how is not as told");
        DogTrials x = known(4);
        for (int how = 0; how <= 3; how++) {
            Check.due("protest", x.protest(how), how);
            for (int bad : new int[] {-1, 4, 5, Integer.MIN_VALUE, Integer.MAX_VALUE}) {
                Check.holds("how " + bad, Check.refuses(x, how, bad, 0));
                Check.holds("how " + bad + ", 5 points", Check.refuses(x, how, bad, 5));
            }
            Check.due("nothing has changed", x.told(how, 3, 0), 1);
            Check.holds("how " + how, x.decide(how, how, 0));
        }
        int[] counting = {1, 0, 0, 1};
        int[] outs = {0, 0, 1, 0};
        for (int run = 0; run < 4; run++) {
            Check.due("COUNTS " + run, x.told(run, 3, 0), counting[run]);
            Check.due("OUT " + run, x.told(run, 2, 0), outs[run]);
            Check.due("TOTAL " + run, x.told(run, 0, 0), 9);
        }
    }

    private static void pointsOfOthers() {
        Check.sentence("others must have 0; False: points are not as told");
        DogTrials x = known(3);
        for (int how = 0; how <= 2; how++) {
            x.protest(how);
            for (int points : new int[] {-1, 1, -50, 50, Integer.MIN_VALUE, Integer.MAX_VALUE}) {
                Check.holds("decide(" + how + ", " + how + ", " + points + ")", Check.refuses(x, how, how, points));
            }
            Check.due("nothing has changed", x.told(how, 3, 0), 1);
            Check.due("nothing is added", x.told(how, 0, 0), 9);
            Check.holds("decide(" + how + ", " + how + ", 0)", x.decide(how, how, 0));
            Check.due("nothing is added", x.told(how, 0, 0), 9);
        }
    }

    private static void pointsAdded() {
        Check.sentence("3 so many points are added (-50 to 50)");
        DogTrials x = Check.trial("part a 99;", 1);
        Check.card(x, 0, "a;");
        int[] points = {-50, 50, -49, 49, 1, -1, 0};
        int total = 99;
        for (int i = 0; i < points.length; i++) {
            x.protest(0);
            for (int bad : new int[] {-51, 51, 100, -100, Integer.MIN_VALUE, Integer.MAX_VALUE}) {
                Check.holds(bad + " points", Check.refuses(x, i, 3, bad));
            }
            Check.due("nothing is added", x.told(0, 0, 0), total);
            Check.holds(points[i] + " points", x.decide(i, 3, points[i]));
            total += points[i];
            Check.due("TOTAL", x.told(0, 0, 0), total);
        }
    }

    private static void decidedOnce() {
        Check.sentence("DECIDED once; False: it was");
        for (int first = 0; first <= 3; first++) {
            DogTrials x = known(1);
            x.protest(0);
            Check.holds("decide(0, " + first + ", 0)", x.decide(0, first, 0));
            x.days(1);
            for (int how = 0; how <= 3; how++) {
                Check.holds("again, " + how, Check.refuses(x, 0, how, 0));
            }
            Check.holds("again, 5 points", Check.refuses(x, 0, 3, 5));
            Check.due("COUNTS as it did", x.told(0, 3, 1), first == 0 || first == 3 ? 1 : 0);
            Check.due("OUT as it was", x.told(0, 2, 1), first == 2 ? 1 : 0);
            Check.due("TOTAL as it was", x.told(0, 0, 1), 9);
            Check.due("known from the first DAY on", x.told(0, 3, 0), first == 0 || first == 3 ? 1 : 0);
        }
    }

    private static void undecided() {
        Check.sentence("decide: A PROTEST is DECIDED TODAY: until then it does nothing");
        DogTrials x = known(1);
        x.protest(0);
        x.days(1);
        Check.due("TOTAL", x.told(0, 0, 1), 9);
        Check.due("COUNTS", x.told(0, 3, 1), 1);
        Check.holds("DECIDED", x.decide(0, 3, 4));
        Check.due("on the DAY", x.told(0, 0, 1), 13);
        Check.due("on the DAY ahead", x.told(0, 0, 0), 9);
        x.days(998);
        Check.due("at the end", x.told(0, 0, 999), 13);
    }

    private static void atLeast0() {
        Check.sentence("TOTAL: of all PARTS together, and what PROTESTS add (at least 0, all together)");
        DogTrials x = Check.trial("part a 50;", 2);
        for (int run = 0; run < 2; run++) {
            Check.card(x, run, "a;");
            x.protest(run);
            x.protest(run);
        }
        x.decide(0, 3, -50);
        Check.due("exactly 0", x.told(0, 0, 0), 0);
        x.decide(1, 3, -1);
        Check.due("1 below it", x.told(0, 0, 0), 0);
        x.decide(2, 3, -49);
        Check.due("1 above it", x.told(1, 0, 0), 1);
        Check.due("PLACE ahead", x.told(1, 4, 0), 1);
        Check.due("it counts with 0", x.told(0, 4, 0), 2);
        x.decide(3, 3, -50);
        Check.due("both are at 0, so they have one PLACE", x.told(0, 4, 0), 1);
        Check.due("one PLACE", x.told(1, 4, 0), 1);
        Check.due("in the LADDER with 0", x.sum(0, 0, 0, 0), 0);
    }

    private static void allTogether() {
        Check.sentence("what PROTESTS add (.. all together): those below 0 first, then those above");
        DogTrials x = Check.trial("part a 10;", 1);
        Check.card(x, 0, "a;");
        for (int i = 0; i < 3; i++) {
            x.protest(0);
        }
        x.decide(0, 3, -50);
        Check.due("TOTAL", x.told(0, 0, 0), 0);
        x.decide(1, 3, 30);
        Check.due("TOTAL", x.told(0, 0, 0), 0);
        x.decide(2, 3, 15);
        Check.due("TOTAL", x.told(0, 0, 0), 5);
    }

    private static void atMost() {
        Check.sentence("40 PROTESTS that add 50 each to 8 PARTS of 99");
        DogTrials x = Check.trial("part a 99;part b 99;part c 99;part d 99;part e 99;part f 99;part g 99;part h 99;", 1);
        Check.card(x, 0, "a;b;c;d;e;f;g;h;");
        Check.due("TOTAL", x.told(0, 0, 0), 792);
        for (int i = 0; i < 40; i++) {
            x.protest(0);
            Check.holds("DECIDED", x.decide(i, 3, 50));
        }
        Check.due("TOTAL with all", x.told(0, 0, 0), 2792);
        Check.due("in the LADDER", x.sum(0, 0, 0, 0), 2792);
    }

    private static void voidRuns() {
        Check.sentence("1 VOID: it doesn't count, and is not OUT");
        DogTrials x = known(2);
        x.protest(0);
        x.decide(0, 1, 0);
        int[] due = {9, 0, 0, 0, NONE, 0};
        for (int what = 0; what <= 5; what++) {
            Check.due("told(0, " + what + ", 0)", x.told(0, what, 0), due[what]);
        }
        Check.due("the other one", x.told(1, 4, 0), 1);
        Check.due("it is known, so there may be another PROTEST", x.protest(0), 1);
    }

    private static void outRuns() {
        Check.sentence("2 OUT: it doesn't count");
        DogTrials x = known(2);
        x.protest(0);
        x.decide(0, 2, 0);
        int[] due = {9, 0, 1, 0, NONE, 0};
        for (int what = 0; what <= 5; what++) {
            Check.due("told(0, " + what + ", 0)", x.told(0, what, 0), due[what]);
        }
        Check.due("the other one", x.told(1, 4, 0), 1);
        Check.due("it is known, so there may be another PROTEST", x.protest(0), 1);
    }

    private static void voidAndOut() {
        Check.sentence("PROTESTS of several kinds against one RUN");
        DogTrials x = known(1);
        for (int i = 0; i < 3; i++) {
            x.protest(0);
        }
        x.decide(2, 3, 4);
        x.decide(0, 2, 0);
        x.decide(1, 1, 0);
        Check.due("OUT", x.told(0, 2, 0), 1);
        Check.due("COUNTS", x.told(0, 3, 0), 0);
        Check.due("TOTAL", x.told(0, 0, 0), 13);
    }

    private static void otherRuns() {
        Check.sentence("PROTESTS .. against a RUN: no other one");
        DogTrials x = known(3);
        x.protest(1);
        x.decide(0, 1, 0);
        x.protest(2);
        x.decide(1, 3, 7);
        int[] counting = {1, 0, 1};
        int[] totals = {9, 9, 16};
        for (int run = 0; run < 3; run++) {
            Check.due("COUNTS " + run, x.told(run, 3, 0), counting[run]);
            Check.due("TOTAL " + run, x.told(run, 0, 0), totals[run]);
        }
    }

    private static void cardsBehindProtests() {
        Check.sentence("its CARD .. may be told anew later: PROTESTS stay");
        DogTrials x = Check.trial("part a 9;part b 9;", 2);
        Check.card(x, 0, "a;");
        Check.card(x, 1, "a;");
        x.protest(0);
        x.protest(1);
        x.decide(0, 3, 5);
        x.decide(1, 1, 0);
        x.days(1);
        Check.card(x, 0, "a;b;");
        Check.card(x, 1, "a;b;");
        Check.due("TOTAL", x.told(0, 0, 1), 23);
        Check.due("TOTAL on the DAY ahead", x.told(0, 0, 0), 14);
        Check.due("VOID still", x.told(1, 3, 1), 0);
    }
}
