/** Texts for the tests: the place of the FAULT that is due is where ^ stands in a marked one. */
final class Texts {
    static final int CANNOT_STAND = 1;
    static final int TOO_MUCH = 2;
    static final int NOT_KNOWN = 3;
    static final int TOLD_ALREADY = 4;
    static final String[] KEYWORDS = {"part", "fault", "off", "out", "tie", "best", "limit", "time", "retired", "and", "or",
        "not", "n", "nth", "hour", "wind", "left", "total"};
    static final String[] VALUES = {"n", "nth", "hour", "wind", "left", "total", "time"};
    static final String EIGHT_PARTS = "part a 1;part b 1;part c 1;part d 1;part e 1;part f 1;part g 1;part h 1;";

    private Texts() {
    }

    static void rulesRefused(String marked, int fault) {
        DogTrials x = new DogTrials();
        String text = unmarked(marked);
        Check.due("rules: " + marked, Check.rules(x, text), -1 - fault);
        Check.due("fault: " + marked, x.fault(), marked.indexOf('^'));
        Check.due("RULES behind " + marked, x.count(4), 0);
        Check.due("tape behind " + marked, x.count(10), 0);
        Check.due("right ones behind " + marked, Check.rules(x, "part a 1;fault a off 1;tie a;"), 0);
        Check.due("no FAULT behind " + marked, x.fault(), Check.NONE);
    }

    static void rulesTaken(String text) {
        DogTrials x = new DogTrials();
        Check.due("rules: " + text, Check.rules(x, text), 0);
        Check.due("fault: " + text, x.fault(), Check.NONE);
        Check.due("RULES behind " + text, x.count(4), 1);
        Check.due("tape behind " + text, x.count(10), 0);
    }

    static void cardRefused(String rules, String marked, int fault) {
        DogTrials x = Check.trial(rules, 1);
        String text = unmarked(marked);
        Check.due("card: " + marked, Check.card(x, 0, text), fault);
        Check.due("fault: " + marked, x.fault(), marked.indexOf('^'));
        Check.due("CARDS behind " + marked, x.count(7), 0);
        Check.due("tape behind " + marked, x.count(10), 0);
        Check.due("known behind " + marked, x.told(0, 0, 0), Check.NONE);
        Check.due("an empty one behind " + marked, x.card(0, 0), 0);
        Check.due("no FAULT behind " + marked, x.fault(), Check.NONE);
        Check.due("TOTAL behind " + marked, x.told(0, 0, 0), 0);
        Check.due("faults behind " + marked, x.told(0, 5, 0), 0);
    }

    /** With this TOTAL and so many faults. */
    static void cardTaken(String rules, String text, int total, int faults) {
        DogTrials x = Check.trial(rules, 1);
        Check.due("card: " + text, Check.card(x, 0, text), 0);
        Check.due("fault: " + text, x.fault(), Check.NONE);
        Check.due("CARDS behind " + text, x.count(7), 1);
        Check.due("tape behind " + text, x.count(10), 0);
        Check.due("TOTAL of " + text, x.told(0, 0, 0), total);
        Check.due("faults of " + text, x.told(0, 5, 0), faults);
    }

    private static String unmarked(String marked) {
        int place = marked.indexOf('^');
        return marked.substring(0, place) + marked.substring(place + 1);
    }

    static boolean isIn(String[] words, String word) {
        for (String w : words) {
            if (w.equals(word)) {
                return true;
            }
        }
        return false;
    }
}
