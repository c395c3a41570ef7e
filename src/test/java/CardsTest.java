/** Promises 10 (trial), 11 (run), 12 (card), 8 (fault) and 14 (took). */
final class CardsTest {
    private static final int CANNOT_STAND = 1;
    private static final int TOO_MUCH = 2;
    private static final int NOT_KNOWN = 3;
    private static final int TOLD_ALREADY = 4;
    private static final String RULES = "part a 10; part b 20; part abcdefgh 30;"
        + "fault f off n; fault g off nth; fault a off 1;";

    public static void main(String[] args) {
        trials();
        runs();
        faults();
        manyFaults();
        points();
        calls();
        anew();
        Check.end();
    }

    private static DogTrials oneRun() {
        DogTrials x = Check.ground(1, 1, 1);
        Check.rules(x, RULES);
        x.trial(0, 0, 0);
        x.run(0, 0, 0, 0, 0);
        return x;
    }

    private static void refused(String marked, int fault) {
        DogTrials x = oneRun();
        int place = marked.indexOf('^');
        String text = marked.substring(0, place) + marked.substring(place + 1);
        Check.due("card: " + marked, Check.card(x, 0, text), fault);
        Check.due("fault: " + marked, x.fault(), place);
        Check.due("CARDS behind " + marked, x.count(7), 0);
        Check.due("tape behind " + marked, x.count(10), 0);
        Check.due("known behind " + marked, x.told(0, 0, 0), -1);
    }

    private static void taken(String text, int total, int faults) {
        DogTrials x = oneRun();
        Check.due("card: " + text, Check.card(x, 0, text), 0);
        Check.due("fault: " + text, x.fault(), -1);
        Check.due("CARDS behind " + text, x.count(7), 1);
        Check.due("TOTAL of " + text, x.told(0, 0, 0), total);
        Check.due("faults of " + text, x.told(0, 5, 0), faults);
    }

    private static void trials() {
        DogTrials x = Check.ground(2, 1, 1);
        Check.rules(x, "part a 5;");
        Check.noSuchElement("rules -1", () -> x.trial(-1, 0, 0));
        Check.noSuchElement("rules 1", () -> x.trial(1, 0, 0));
        Check.noSuchElement("judge -1", () -> x.trial(0, 0, -1));
        Check.noSuchElement("judge 2", () -> x.trial(0, 0, 2));
        Check.noSuchElement("no such JUDGE, and no DAY", () -> x.trial(0, 1000, 2));
        Check.due("DAY -1", x.trial(0, -1, 0), -1);
        Check.due("DAY 1000", x.trial(0, 1000, 0), -1);
        for (int i = 0; i < 20; i++) {
            Check.due("trial", x.trial(0, i % 2 * 999, i % 2), i);
        }
        Check.due("the 21st", x.trial(0, 0, 0), -1);
        Check.due("TRIALS", x.count(5), 20);
        Check.noSuchElement("no such JUDGE, and there are 20", () -> x.trial(0, 0, 2));
    }

    private static void runs() {
        DogTrials x = Check.ground(1, 2, 3);
        Check.rules(x, "part a 5;");
        x.trial(0, 0, 0);
        Check.noSuchElement("trial -1", () -> x.run(-1, 0, 0, 0, 0));
        Check.noSuchElement("trial 1", () -> x.run(1, 0, 0, 0, 0));
        Check.noSuchElement("dog -1", () -> x.run(0, -1, 0, 0, 0));
        Check.noSuchElement("dog 3", () -> x.run(0, 3, 0, 0, 0));
        Check.noSuchElement("packet -1", () -> x.run(0, 0, -1, 0, 0));
        Check.noSuchElement("packet 2", () -> x.run(0, 0, 2, 0, 0));
        Check.noSuchElement("packet 2, and no HOUR", () -> x.run(0, 0, 2, 24, 0));
        Check.due("HOUR -1", x.run(0, 0, 0, -1, 0), -1);
        Check.due("HOUR 24", x.run(0, 0, 0, 24, 0), -1);
        Check.due("WIND -1", x.run(0, 0, 0, 0, -1), -1);
        Check.due("WIND 10", x.run(0, 0, 0, 0, 10), -1);
        for (int i = 0; i < 120; i++) {
            Check.due("run", x.run(0, i % 3, i % 2, i % 24, i % 10), i);
        }
        Check.due("the 121st", x.run(0, 0, 0, 0, 0), -1);
        Check.due("RUNS", x.count(6), 120);
        Check.due("a RUN without a CARD", x.told(119, 0, 0), -1);
        Check.noSuchElement("no such DOG, and there are 120", () -> x.run(0, 3, 0, 0, 0));
    }

    private static void faults() {
        taken("", 0, 0);
        taken(" \n", 0, 0);
        taken("a;", 10, 0);
        taken("abcdefgh;", 30, 0);
        taken("a;b;abcdefgh;", 60, 0);
        taken("a f;b f 2;abcdefgh f3g;", 53, 4);
        taken("a a;", 9, 1);
        taken("a f 0 f 99999;", 0, 2);
        taken("b;time 5;", 20, 0);
        taken("b;retired;", 20, 0);
        taken("b;time 99999;retired;", 20, 0);
        taken("time 0;", 0, 0);
        taken("retired;", 0, 0);
        refused("a^", CANNOT_STAND);
        refused("a f^", CANNOT_STAND);
        refused("a f 5 ^", CANNOT_STAND);
        refused("^;", CANNOT_STAND);
        refused("^5;", CANNOT_STAND);
        refused("a ^5;", CANNOT_STAND);
        refused("a f 5 ^5;", CANNOT_STAND);
        refused("a f^,f;", CANNOT_STAND);
        refused("a f ^off;", CANNOT_STAND);
        refused("a ^time 5;", CANNOT_STAND);
        refused("^part;", CANNOT_STAND);
        refused("^n;", CANNOT_STAND);
        refused("a;^!", CANNOT_STAND);
        refused("a f ^!;", CANNOT_STAND);
        refused("^A;", CANNOT_STAND);
        refused("time ^;", CANNOT_STAND);
        refused("time 5^", CANNOT_STAND);
        refused("time 5;^time 5;", CANNOT_STAND);
        refused("time 5;^a;", CANNOT_STAND);
        refused("time 5;^zz;", CANNOT_STAND);
        refused("time 5;^5", CANNOT_STAND);
        refused("retired^", CANNOT_STAND);
        refused("retired ^5;", CANNOT_STAND);
        refused("retired;^retired;", CANNOT_STAND);
        refused("retired;^time 5;", CANNOT_STAND);
        refused("retired;^a;", CANNOT_STAND);
        refused("time ^100000;", TOO_MUCH);
        refused("time ^000000;", TOO_MUCH);
        refused("a f ^100000;", TOO_MUCH);
        refused("^abcdefghi;", TOO_MUCH);
        refused("a ^abcdefghi;", TOO_MUCH);
        refused("^f;", NOT_KNOWN);
        refused("^zz;", NOT_KNOWN);
        refused("a ^b;", NOT_KNOWN);
        refused("a f ^zz;", NOT_KNOWN);
        refused("a;^a;", TOLD_ALREADY);
        refused("b;^a;", TOLD_ALREADY);
        refused("a;abcdefgh;^b;", TOLD_ALREADY);
        refused("a;b;abcdefgh;^abcdefgh;", TOLD_ALREADY);
        refused("a;b;abcdefgh;^zz;", NOT_KNOWN);
        refused("a;b;abcdefgh;^abcdefghi;", TOO_MUCH);
    }

    private static void manyFaults() {
        String twenty = " f 0".repeat(20);
        taken("a" + twenty + ";b" + twenty + ";", 30, 40);
        refused("a" + twenty + ";b" + twenty + " ^f;", TOO_MUCH);
        refused("a" + twenty + ";b" + twenty + " ^zz;", TOO_MUCH);
        refused("a" + twenty + ";b" + twenty + " ^abcdefghi;", TOO_MUCH);
        refused("a" + twenty + ";b" + twenty + " ^off;", CANNOT_STAND);
        refused("a" + twenty + twenty + ";b ^f;", TOO_MUCH);
        taken("a" + twenty + twenty + ";b;", 30, 40);
        refused("a" + twenty + twenty + " ^f;", TOO_MUCH);
    }

    private static void points() {
        DogTrials x = Check.ground(1, 1, 1);
        Check.rules(x, "part a 10; part b 20; fault f off n; fault g off nth*nth; fault h off left/2; fault i off 0-5;");
        x.trial(0, 0, 0);
        x.run(0, 0, 0, 0, 0);
        Check.due("card", Check.card(x, 0, "a g g f i h 9 f 4;b h g h f 9 f g;time 7;"), 0);
        int[] due = {1, 4, 1, 0, 2, 2, 10, 1, 4, 5, 0, 0};
        for (int i = 0; i < due.length; i++) {
            Check.due("took(" + i + ")", x.took(0, i, 0), due[i]);
        }
        Check.noSuchElement("took(12)", () -> x.took(0, 12, 0));
        Check.noSuchElement("took(-1)", () -> x.took(0, -1, 0));
        Check.illegalArgument("took, no such DAY", () -> x.took(0, 0, 1));
        Check.illegalArgument("took, DAY -1", () -> x.took(0, 0, -1));
        Check.illegalArgument("no such DAY, no such fault", () -> x.took(0, 12, 1));
        Check.noSuchElement("no such RUN, no such DAY", () -> x.took(1, 0, 1));
        Check.due("a", x.told(0, 10, 0), 0);
        Check.due("b", x.told(0, 11, 0), 0);
        Check.due("faults", x.told(0, 5, 0), 12);
        Check.due("time", x.told(0, 1, 0), 7);
        x.run(0, 0, 0, 0, 0);
        Check.noSuchElement("took of a RUN that isn't known", () -> x.took(1, 0, 0));
        Check.illegalArgument("a RUN that isn't known, no such DAY", () -> x.took(1, 0, 1));
        Check.card(x, 1, "b;");
        Check.due("a PART that isn't on the CARD", x.told(1, 10, 0), 0);
        Check.due("one that is", x.told(1, 11, 0), 20);
    }

    private static void calls() {
        DogTrials x = oneRun();
        Check.feed(x, "zz;");
        Check.noSuchElement("no such RUN", () -> x.card(1, 3));
        Check.noSuchElement("no such RUN, ahead", () -> x.card(-1, 21));
        Check.illegalArgument("n -1", () -> x.card(0, -1));
        Check.illegalArgument("n 21", () -> x.card(0, 21));
        Check.due("nothing changes", x.count(10), 20);
        Check.due("a FAULT", x.card(0, 3), 3);
        Check.due("its place", x.fault(), 0);
        Check.illegalArgument("n 1", () -> x.card(0, 1));
        Check.due("its place stays", x.fault(), 0);
        for (int i = 0; i < 200; i++) {
            Check.due("card", x.card(0, 0), 0);
        }
        Check.due("CARDS", x.count(7), 200);
        Check.feed(x, "zz;");
        Check.illegalArgument("there are 200, n 21", () -> x.card(0, 21));
        Check.due("there are 200, ahead of a FAULT", x.card(0, 3), 9);
        Check.due("no FAULT", x.fault(), -1);
        Check.due("the tape is empty", x.count(10), 0);
        Check.due("CARDS", x.count(7), 200);
        Check.due("rules()'s FAULT", Check.rules(x, "part"), -2);
        Check.due("its place", x.fault(), 4);
    }

    private static void anew() {
        DogTrials x = oneRun();
        Check.card(x, 0, "a f 3;time 5;");
        x.days(2);
        Check.card(x, 0, "b f f;");
        Check.card(x, 0, "b f 7;time 9;");
        x.days(3);
        Check.card(x, 0, "zz;");
        Check.due("DAY 0", x.told(0, 0, 0), 7);
        Check.due("DAY 1", x.told(0, 0, 1), 7);
        Check.due("DAY 2, the last one", x.told(0, 0, 2), 13);
        Check.due("a CARD with a FAULT is none", x.told(0, 0, 5), 13);
        Check.due("took DAY 1", x.took(0, 0, 1), 3);
        Check.due("took DAY 2", x.took(0, 0, 2), 7);
        Check.due("time DAY 1", x.told(0, 1, 1), 5);
        Check.due("time DAY 2", x.told(0, 1, 2), 9);
        Check.card(x, 0, "");
        Check.due("DAY 5", x.told(0, 0, 5), 0);
        Check.due("DAY 4", x.told(0, 0, 4), 13);
        Check.due("no fault any more", x.told(0, 5, 5), 0);
        Check.due("CARDS", x.count(7), 4);
    }
}
