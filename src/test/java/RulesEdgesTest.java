/** Boundary cases of promise 7 (rules): RULES and their FAULTS, a test for each sentence. */
final class RulesEdgesTest {
    private static final int CANNOT_STAND = Texts.CANNOT_STAND;
    private static final int TOO_MUCH = Texts.TOO_MUCH;
    private static final int NOT_KNOWN = Texts.NOT_KNOWN;
    private static final int TOLD_ALREADY = Texts.TOLD_ALREADY;
    private static final String EIGHT = Texts.EIGHT_PARTS;

    public static void main(String[] args) {
        aPartAtLeast();
        partPoints();
        mostParts();
        partsAheadOfClauses();
        names();
        unlikeNames();
        keywords();
        mostFaults();
        best();
        limit();
        mostClauses();
        clauseTokens();
        ties();
        mostOfATie();
        lastTieCounts();
        lastBestCounts();
        lastLimitCounts();
        allOutCount();
        notKnown();
        toldAlready();
        theLeast();
        theFirst();
        refusedRulesLeaveNothing();
        Check.end();
    }

    private static void aPartAtLeast() {
        Check.sentence("RULES: PART PART* CLAUSE*");
        Texts.rulesRefused("^", CANNOT_STAND);
        Texts.rulesRefused("   ^", CANNOT_STAND);
        Texts.rulesRefused("^best 1;", CANNOT_STAND);
        Texts.rulesRefused("^fault a off 1;", CANNOT_STAND);
        Texts.rulesRefused("^;", CANNOT_STAND);
        Texts.rulesTaken("part a 1;");
        Texts.rulesTaken("part a 1;part b 1;");
        Texts.rulesTaken("part a 1;best 1;");
    }

    private static void partPoints() {
        Check.sentence("PART: 'part' NAME NUMBER ';' (1 to 99 points)");
        Texts.rulesRefused("part a ^0;", TOO_MUCH);
        Texts.rulesTaken("part a 1;");
        Texts.rulesTaken("part a 99;");
        Texts.rulesRefused("part a ^100;", TOO_MUCH);
        Texts.rulesRefused("part a ^99999;", TOO_MUCH);
        Texts.rulesRefused("part a 1;part b ^0;", TOO_MUCH);
        Texts.cardTaken("part a 1;part b 99;", "a;", 1, 0);
        Texts.cardTaken("part a 1;part b 99;", "b;", 99, 0);
    }

    private static void mostParts() {
        Check.sentence("PART: at most 8; 2 the 'part' of the 9th PART");
        Texts.rulesTaken("part a 1;part b 1;part c 1;part d 1;part e 1;part f 1;part g 1;");
        Texts.rulesTaken(EIGHT);
        Texts.rulesRefused(EIGHT + "^part i 1;", TOO_MUCH);
        Texts.rulesRefused(EIGHT + "^part a 1;", TOO_MUCH);
        Texts.rulesRefused(EIGHT + "^part", TOO_MUCH);
        Texts.rulesTaken(EIGHT + "best 1;");
        Texts.cardTaken(EIGHT, "a;b;c;d;e;f;g;h;", 8, 0);
    }

    private static void partsAheadOfClauses() {
        Check.sentence("1 a TOKEN that can't stand there: a PART behind a CLAUSE");
        Texts.rulesRefused("part a 1;best 1;^part b 1;", CANNOT_STAND);
        Texts.rulesRefused("part a 1;out 1;^part b 1;", CANNOT_STAND);
        Texts.rulesRefused(EIGHT + "best 1;^part i 1;", CANNOT_STAND);
    }

    private static void names() {
        Check.sentence("NAME: a word of at most 8 letters; 2 a NAME of 9 letters or more");
        Texts.rulesTaken("part a 1;part ab 1;part abcdefgh 1;part zzzzzzzz 1;");
        Texts.rulesRefused("part ^abcdefghi 1;", TOO_MUCH);
        Texts.rulesRefused("part ^" + "a".repeat(500) + " 1;", TOO_MUCH);
        Texts.rulesTaken("part a 1;fault a off 1;fault abcdefgh off 1;fault zzzzzzzz off 1;");
        Texts.rulesRefused("part a 1;fault ^abcdefghi off 1;", TOO_MUCH);
        Texts.rulesTaken("part abcdefgh 1;tie abcdefgh;");
        Texts.rulesRefused("part abcdefgh 1;tie ^abcdefghi;", TOO_MUCH);
        Texts.rulesTaken("part abcdefgh 1;part abcdefgi 1;part bbcdefgh 1;part abcdefg 1;");
        Texts.rulesRefused("part ^1 1;", CANNOT_STAND);
        Texts.rulesRefused("part ^; 1;", CANNOT_STAND);
    }

    private static void unlikeNames() {
        Check.sentence("4 what was told already: a PART's NAME: no other one, however near it is");
        for (char c = 'a'; c <= 'z'; c++) {
            String name = "";
            StringBuilder rules = new StringBuilder();
            StringBuilder card = new StringBuilder();
            for (int length = 1; length <= 8; length++) {
                name += c;
                if (!Texts.isIn(Texts.KEYWORDS, name)) {
                    rules.append("part ").append(name).append(" 1;");
                    card.append(name).append(';');
                }
            }
            Texts.cardTaken(rules.toString(), card.toString(), c == 'n' ? 7 : 8, 0);
        }
        for (int place = 0; place < 8; place++) {
            for (char c = 'b'; c <= 'z'; c++) {
                String name = "aaaaaaaa".substring(0, place) + c + "aaaaaaaa".substring(place + 1);
                Texts.rulesTaken("part aaaaaaaa 1;part " + name + " 1;tie " + name + ",aaaaaaaa;");
                Texts.rulesRefused("part aaaaaaaa 1;tie ^" + name + ";", NOT_KNOWN);
            }
        }
        Texts.rulesTaken("part az 1;part za 1;part ba 1;part ab 1;part b 1;part a 1;part bz 1;part z 1;");
    }

    private static void keywords() {
        Check.sentence("NAME: a word .. that is no KEYWORD");
        Check.due("KEYWORDS", Texts.KEYWORDS.length, 18);
        for (String word : Texts.KEYWORDS) {
            Texts.rulesRefused("part ^" + word + " 1;", CANNOT_STAND);
            Texts.rulesRefused("part a 1;fault ^" + word + " off 1;", CANNOT_STAND);
            if (word.equals("time")) {
                Texts.rulesTaken("part a 1;tie time;");
            } else {
                Texts.rulesRefused("part a 1;tie ^" + word + ";", CANNOT_STAND);
            }
            String shorter = word.substring(0, word.length() - 1);
            for (String near : new String[] {word + "x", "x" + word, shorter}) {
                if (!near.isEmpty() && !Texts.isIn(Texts.KEYWORDS, near)) {
                    Texts.rulesTaken("part " + near + " 1;fault " + near + " off 1;tie " + near + ";");
                }
            }
        }
    }

    private static String faults(int howMany) {
        StringBuilder text = new StringBuilder("part a 9;");
        for (int i = 0; i < howMany; i++) {
            text.append("fault ").append((char) ('a' + i)).append(" off 1;");
        }
        return text.toString();
    }

    private static void mostFaults() {
        Check.sentence("'fault' NAME 'off' EXPR ';' (at most 10); 2 the 'fault' of the 11th");
        Texts.rulesTaken(faults(9));
        Texts.rulesTaken(faults(10));
        Texts.rulesRefused(faults(10) + "^fault k off 1;", TOO_MUCH);
        Texts.rulesRefused(faults(10) + "^fault a off 1;", TOO_MUCH);
        Texts.rulesRefused(faults(10) + "^fault", TOO_MUCH);
        Texts.rulesRefused(faults(10) + "best 1;^fault k off 1;", TOO_MUCH);
        Texts.rulesTaken(faults(10) + "best 1;out 1;");
        Texts.cardTaken(faults(10), "a a b c d j;", 4, 5);
    }

    private static void best() {
        Check.sentence("'best' NUMBER ';' (1 to 20)");
        Texts.rulesRefused("part a 1;best ^0;", TOO_MUCH);
        Texts.rulesTaken("part a 1;best 1;");
        Texts.rulesTaken("part a 1;best 20;");
        Texts.rulesRefused("part a 1;best ^21;", TOO_MUCH);
        Texts.rulesRefused("part a 1;best ^;", CANNOT_STAND);
        Texts.rulesRefused("part a 1;best ^n;", CANNOT_STAND);
        Texts.rulesRefused("part a 1;best 1^,", CANNOT_STAND);
    }

    private static void limit() {
        Check.sentence("'limit' NUMBER ';' (1 to 9999)");
        Texts.rulesRefused("part a 1;limit ^0;", TOO_MUCH);
        Texts.rulesTaken("part a 1;limit 1;");
        Texts.rulesTaken("part a 1;limit 9999;");
        Texts.rulesRefused("part a 1;limit ^10000;", TOO_MUCH);
        Texts.rulesRefused("part a 1;limit ^;", CANNOT_STAND);
        Texts.rulesRefused("part a 1;limit ^time;", CANNOT_STAND);
        Texts.rulesRefused("part a 1;limit 1^,", CANNOT_STAND);
    }

    private static void mostClauses() {
        Check.sentence("At most 20 CLAUSES; 2 the first TOKEN of the 21st CLAUSE");
        String[] kinds = {"out 1;", "tie a;", "best 1;", "limit 1;"};
        String[] next = {"^out 1;", "^tie a;", "^best 1;", "^limit 1;", "^fault k off 1;", "^fault", "^out", "^tie b;"};
        for (String kind : kinds) {
            Texts.rulesTaken("part a 1;" + kind.repeat(19));
            Texts.rulesTaken("part a 1;" + kind.repeat(20));
            for (String n : next) {
                Texts.rulesRefused("part a 1;" + kind.repeat(20) + n, TOO_MUCH);
            }
            for (String n : new String[] {"^part b 1;", "^x", "^;", "^1", "^time", "^off", "^!"}) {
                Texts.rulesRefused("part a 1;" + kind.repeat(20) + n, CANNOT_STAND);
            }
        }
        Texts.rulesTaken(faults(10) + "best 1;".repeat(10));
        Texts.rulesRefused(faults(10) + "best 1;".repeat(10) + "^best 1;", TOO_MUCH);
        Texts.rulesTaken(EIGHT + "out 1;".repeat(20));
    }

    private static void clauseTokens() {
        Check.sentence("1 a TOKEN that can't stand there: in a CLAUSE");
        for (String word : Texts.KEYWORDS) {
            boolean begins = Texts.isIn(new String[] {"fault", "out", "tie", "best", "limit", "part"}, word);
            if (!begins) {
                Texts.rulesRefused("part a 1;^" + word + " 1;", CANNOT_STAND);
            }
            if (!word.equals("off")) {
                Texts.rulesRefused("part a 1;fault f ^" + word + " 1;", CANNOT_STAND);
            }
        }
        Texts.rulesRefused("part a 1;^a 1;", CANNOT_STAND);
        Texts.rulesRefused("part a 1;^abcdefghi;", CANNOT_STAND);
        Texts.rulesRefused("part a 1;fault f ^1;", CANNOT_STAND);
        Texts.rulesRefused("part a 1;fault f ^g off 1;", CANNOT_STAND);
        Texts.rulesRefused("part a 1;fault f off 1 ^off;", CANNOT_STAND);
        Texts.rulesRefused("part a 1;out 1^,1;", CANNOT_STAND);
        Texts.rulesRefused("part a 1^,", CANNOT_STAND);
        Texts.rulesRefused("part a 1;out 1;^;", CANNOT_STAND);
    }

    private static void ties() {
        Check.sentence("'tie' (NAME | 'time') (',' (NAME | 'time'))* ';'");
        Texts.rulesTaken("part a 1;tie a;");
        Texts.rulesTaken("part a 1;tie time;");
        Texts.rulesTaken("part a 1;tie time,a;");
        Texts.rulesRefused("part a 1;tie ^;", CANNOT_STAND);
        Texts.rulesRefused("part a 1;tie ^,a;", CANNOT_STAND);
        Texts.rulesRefused("part a 1;tie a,^;", CANNOT_STAND);
        Texts.rulesRefused("part a 1;tie a,^,time;", CANNOT_STAND);
        Texts.rulesRefused("part a 1;tie a ^time;", CANNOT_STAND);
        Texts.rulesRefused("part a 1;tie ^1;", CANNOT_STAND);
        Texts.rulesRefused("part a 1;tie ^(a);", CANNOT_STAND);
    }

    private static void mostOfATie() {
        Check.sentence("2 the 9th of a 'tie' (its NAME or 'time')");
        Texts.rulesTaken(EIGHT + "tie a,b,c,d,e,f,g,h;");
        Texts.rulesTaken(EIGHT + "tie time,b,c,d,e,f,g,h;");
        Texts.rulesTaken(EIGHT + "tie a,b,c,d,e,f,g,time;");
        Texts.rulesRefused(EIGHT + "tie a,b,c,d,e,f,g,h,^time;", TOO_MUCH);
        Texts.rulesRefused(EIGHT + "tie time,a,b,c,d,e,f,g,^h;", TOO_MUCH);
        Texts.rulesRefused(EIGHT + "tie a,b,c,d,e,f,g,h,^;", CANNOT_STAND);
        Texts.rulesRefused(EIGHT + "tie a,b,c,d,e,f,g,h,^off;", CANNOT_STAND);
        Texts.rulesRefused(EIGHT + "tie a,b,c,d,e,f,g,h,^5;", CANNOT_STAND);
        Texts.rulesRefused(EIGHT + "tie a,b,c,d,e,f,g,h,^", CANNOT_STAND);
        Texts.rulesTaken(EIGHT + "tie a,b,c,d,e,f,g,h;tie time,a,b,c,d,e,f,g;");
        int[] due = {1, 2};
        DogTrials x = Check.trial(EIGHT + "fault f off 1;tie time,b,c,d,e,f,g,h;", 2);
        Check.card(x, 0, "h;");
        Check.card(x, 1, "g;");
        Check.due("the 8th of a tie is the last that parts them", x.told(0, 4, 0), 2);
        Check.due("the 7th does ahead of it", x.told(1, 4, 0), 1);
        DogTrials y = Check.trial(EIGHT + "tie time,b,c,d,e,f,g,h;", 2);
        Check.card(y, 0, "a;");
        Check.card(y, 1, "h;");
        Check.due("by the 8th alone", y.told(1, 4, 0), due[0]);
        Check.due("by the 8th alone, the other one", y.told(0, 4, 0), due[1]);
    }

    private static void lastTieCounts() {
        Check.sentence("of 'tie' .. the last counts");
        DogTrials x = Check.trial("part a 5;part b 5;tie a,b;tie b;", 2);
        Check.card(x, 0, "a;");
        Check.card(x, 1, "b;");
        Check.due("PLACE by b", x.told(1, 4, 0), 1);
        Check.due("PLACE of the other one", x.told(0, 4, 0), 2);
        DogTrials y = Check.trial("part a 5;part b 5;tie a,b;tie time;", 2);
        Check.card(y, 0, "a;");
        Check.card(y, 1, "b;");
        Check.due("what the first names is gone", y.told(0, 4, 0), 1);
        Check.due("of both", y.told(1, 4, 0), 1);
        Texts.rulesTaken("part a 5;tie a;tie a;");
        Texts.rulesTaken("part a 5;tie a,time;tie time,a;");
    }

    private static void lastBestCounts() {
        Check.sentence("of .. 'best' .. the last counts");
        DogTrials x = Check.trial("part a 90;fault f off n;best 3;best 1;best 2;", 0);
        for (int i = 0; i < 4; i++) {
            Check.scored(x, 0, 0, 0, 10 + i);
        }
        Check.due("best 2", x.sum(0, 0, 0, 0), 25);
    }

    private static void lastLimitCounts() {
        Check.sentence("of .. 'limit' the last counts");
        DogTrials x = Check.trial("part a 5;limit 10;limit 30;limit 20;", 2);
        Check.card(x, 0, "time 20;");
        Check.card(x, 1, "time 21;");
        Check.due("at 20", x.told(0, 2, 0), 0);
        Check.due("at 21", x.told(1, 2, 0), 1);
    }

    private static void allOutCount() {
        Check.sentence("all 'out'");
        StringBuilder rules = new StringBuilder("part a 99;fault f off n;");
        for (int i = 0; i < 19; i++) {
            rules.append("out total=").append(i).append(';');
        }
        DogTrials x = Check.trial(rules.toString(), 20);
        for (int i = 0; i < 20; i++) {
            Check.card(x, i, "a f " + (99 - i) + ";");
            Check.due("OUT with " + i, x.told(i, 2, 0), i < 19 ? 1 : 0);
        }
        DogTrials y = Check.trial("part a 9;" + "out 0;".repeat(19) + "out 1;", 1);
        Check.card(y, 0, "");
        Check.due("the 20th alone", y.told(0, 2, 0), 1);
        DogTrials z = Check.trial("part a 9;" + "out 1;" + "out 0;".repeat(19), 1);
        Check.card(z, 0, "");
        Check.due("the first alone", z.told(0, 2, 0), 1);
    }

    private static void notKnown() {
        Check.sentence("3 a word that can stand but isn't known: a NAME in 'tie' that is no PART's");
        Texts.rulesRefused("part a 1;tie ^b;", NOT_KNOWN);
        Texts.rulesRefused("part ab 1;tie ^a;", NOT_KNOWN);
        Texts.rulesRefused("part a 1;tie ^aa;", NOT_KNOWN);
        Texts.rulesRefused("part a 1;fault f off 1;tie ^f;", NOT_KNOWN);
        Texts.rulesRefused("part a 1;tie time,^b;", NOT_KNOWN);
        Texts.rulesRefused(EIGHT + "tie a,b,c,d,e,f,g,^i;", NOT_KNOWN);
    }

    private static void toldAlready() {
        Check.sentence("4 what was told already: a PART's NAME, a fault's NAME (each among its own), one of a 'tie' in it");
        Texts.rulesRefused("part a 1;part ^a 1;", TOLD_ALREADY);
        Texts.rulesRefused("part a 1;part b 1;part ^a 1;", TOLD_ALREADY);
        Texts.rulesRefused("part a 1;part b 1;part c 1;part d 1;part e 1;part f 1;part g 1;part ^g 1;", TOLD_ALREADY);
        Texts.rulesRefused("part a 1;fault f off 1;fault ^f off 1;", TOLD_ALREADY);
        Texts.rulesRefused(faults(9) + "fault ^a off 1;", TOLD_ALREADY);
        Texts.rulesRefused(faults(9) + "fault ^i off 1;", TOLD_ALREADY);
        Texts.rulesTaken("part a 1;part b 1;fault b off 1;fault a off 1;");
        Texts.rulesRefused("part a 1;tie a,^a;", TOLD_ALREADY);
        Texts.rulesRefused("part a 1;tie time,^time;", TOLD_ALREADY);
        Texts.rulesRefused("part a 1;tie time,a,^time;", TOLD_ALREADY);
        Texts.rulesRefused(EIGHT + "tie a,b,c,d,e,f,g,^a;", TOLD_ALREADY);
        Texts.rulesTaken("part a 1;tie a,time;tie a,time;");
    }

    private static void theLeast() {
        Check.sentence("FAULTS .. of several the least");
        Texts.rulesRefused("part ^100000 1;", CANNOT_STAND);
        Texts.rulesRefused("part ^123456789 1;", CANNOT_STAND);
        Texts.rulesRefused("part a 1;fault ^123456789 off 1;", CANNOT_STAND);
        Texts.rulesRefused("part a 1;tie ^123456789;", CANNOT_STAND);
        Texts.rulesRefused(EIGHT + "tie a,b,c,d,e,f,g,h,^123456789;", CANNOT_STAND);
        Texts.rulesRefused("part a 1;best ^abcdefghi;", CANNOT_STAND);
        Texts.rulesRefused("part a 1 ^100000;", CANNOT_STAND);
        Texts.rulesRefused("part a ^abcdefghi;", CANNOT_STAND);
        Texts.rulesRefused("part a 1;tie ^abcdefghi;", TOO_MUCH);
        Texts.rulesRefused(EIGHT + "tie a,b,c,d,e,f,g,h,^zz;", TOO_MUCH);
        Texts.rulesRefused(EIGHT + "tie a,b,c,d,e,f,g,h,^a;", TOO_MUCH);
        Texts.rulesRefused(EIGHT + "tie a,b,c,d,e,f,g,h,^abcdefghi;", TOO_MUCH);
        Texts.rulesRefused(faults(10) + "best 1;".repeat(10) + "^fault a off 1;", TOO_MUCH);
        Texts.rulesRefused("part a 1;" + "best 1;".repeat(20) + "^part a 1;", CANNOT_STAND);
        Texts.rulesRefused("part a 1;" + "best 1;".repeat(20) + "^100000;", CANNOT_STAND);
    }

    private static void theFirst() {
        Check.sentence("FAULTS of both, the first along the text, at a TOKEN's first byte");
        Texts.rulesRefused("part a ^0;part a 0;", TOO_MUCH);
        Texts.rulesRefused("part a 1;part ^a 0;x", TOLD_ALREADY);
        Texts.rulesRefused("part a 1;tie ^b,b,!", NOT_KNOWN);
        Texts.rulesRefused("part a 1;fault f off (1+^foo;best 0;", NOT_KNOWN);
        Texts.rulesRefused("part a 1;fault f off ^100000", TOO_MUCH);
        Texts.rulesRefused("  part\n  ^abcdefghij  0", TOO_MUCH);
        Texts.rulesRefused("part a 1;best 1;^faults f off 1;", CANNOT_STAND);
    }

    private static void refusedRulesLeaveNothing() {
        Check.sentence("rules: - 1 - the FAULT: no RULES are told, and none of it stays");
        DogTrials x = Check.trial("part a 90;fault f off n;best 1;", 0);
        Check.scored(x, 0, 0, 0, 5);
        Check.scored(x, 0, 0, 0, 4);
        Check.due("refused at its end", Check.rules(x, "part a 1;part b 1;fault g off 1;tie a;limit 1;best 2;out 1"), -2);
        Check.due("RULES", x.count(4), 1);
        Check.due("those told last stay those told last", x.sum(0, 0, 0, 0), 5);
        Check.noSuchElement(x, "no RULES 1", () -> x.trial(1, 0, 0));
        Check.due("the next ones", Check.rules(x, "part b 1;fault f off 1;best 2;"), 1);
        Check.due("are told last", x.sum(0, 0, 0, 0), 9);
        Check.due("a TRIAL by them", x.trial(1, 0, 0), 1);
        Check.due("a RUN of it", x.run(1, 1, 0, 0, 0), 2);
        Check.due("its CARD knows no a", Check.card(x, 2, "a;"), NOT_KNOWN);
        Check.due("its CARD knows no g", Check.card(x, 2, "b g;"), NOT_KNOWN);
        Check.due("its CARD knows b and f", Check.card(x, 2, "b f;time 5;"), 0);
        Check.due("no limit, no out", x.told(2, 2, 0), 0);
        Check.noSuchElement(x, "it has one PART", () -> x.told(2, 11, 0));
    }
}
