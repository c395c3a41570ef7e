/** Promises 7 (rules) and 8 (fault): FAULTS of RULES, each at its place. */
final class RulesTest {
    private static final int CANNOT_STAND = 1;
    private static final int TOO_MUCH = 2;
    private static final int NOT_KNOWN = 3;
    private static final int TOLD_ALREADY = 4;

    public static void main(String[] args) {
        texts();
        parts();
        clauses();
        ties();
        expressions();
        depths();
        calls();
        Check.end();
    }

    /** The place of the FAULT is where ^ stands in the text. */
    private static void refused(String marked, int fault) {
        DogTrials x = new DogTrials();
        int place = marked.indexOf('^');
        String text = marked.substring(0, place) + marked.substring(place + 1);
        Check.due("rules: " + marked, Check.rules(x, text), -1 - fault);
        Check.due("fault: " + marked, x.fault(), place);
        Check.due("RULES behind " + marked, x.count(4), 0);
        Check.due("tape behind " + marked, x.count(10), 0);
    }

    private static void taken(String text) {
        DogTrials x = new DogTrials();
        Check.due("rules: " + text, Check.rules(x, text), 0);
        Check.due("fault: " + text, x.fault(), -1);
        Check.due("RULES behind " + text, x.count(4), 1);
        Check.due("tape behind " + text, x.count(10), 0);
    }

    private static String times(String text, int n) {
        return text.repeat(n);
    }

    private static void texts() {
        refused("^", CANNOT_STAND);
        refused("  \n ^", CANNOT_STAND);
        taken("part a 1;");
        taken("part\na\n1\n;\n");
        taken(" part a1; ");
        taken("part a 1;fault b off n;");
        refused("part a 1^", CANNOT_STAND);
        refused("part a 1  ^", CANNOT_STAND);
        refused("part a^", CANNOT_STAND);
        refused("part^", CANNOT_STAND);
        refused("^par", CANNOT_STAND);
        refused("^parta 1;", CANNOT_STAND);
        refused("^Part a 1;", CANNOT_STAND);
        refused("^\tpart a 1;", CANNOT_STAND);
        refused("^\rpart a 1;", CANNOT_STAND);
        refused("^\0part a 1;", CANNOT_STAND);
        refused("part ^\u00e4 1;", CANNOT_STAND);
        refused("part a 1^.", CANNOT_STAND);
        refused("part a 1; ^#", CANNOT_STAND);
        refused("part a 1;^;", CANNOT_STAND);
        refused("^fault a off 1;", CANNOT_STAND);
        refused("^best 1;", CANNOT_STAND);
    }

    private static void parts() {
        taken("part a 99;");
        taken("part a 00099;");
        refused("part a ^0;", TOO_MUCH);
        refused("part a ^100;", TOO_MUCH);
        refused("part a ^000001;", TOO_MUCH);
        refused("part a ^4294967297;", TOO_MUCH);
        refused("part a ^b;", CANNOT_STAND);
        refused("part ^5 5;", CANNOT_STAND);
        refused("part ^; 5;", CANNOT_STAND);
        refused("part ^part 5;", CANNOT_STAND);
        refused("part ^left 5;", CANNOT_STAND);
        refused("part ^total 5;", CANNOT_STAND);
        refused("part ^retired 5;", CANNOT_STAND);
        refused("part ^nth 5;", CANNOT_STAND);
        taken("part nn 5; part nt 5; part lefts 5; part par 5;");
        taken("part abcdefgh 5;");
        refused("part ^abcdefghi 5;", TOO_MUCH);
        refused("part abcdefgh 5; part ^abcdefgh 5;", TOLD_ALREADY);
        taken("part abcdefgh 5; part abcdefgi 5; part a 5; part aa 5;");
        taken(eightParts());
        refused(eightParts() + "^part i 1;", TOO_MUCH);
        refused(eightParts() + "^part;", TOO_MUCH);
        refused("part a 1; best 1; ^part b 1;", CANNOT_STAND);
        refused(eightParts() + "best 1; ^part b 1;", CANNOT_STAND);
        refused("part a 1 ^part b 1;", CANNOT_STAND);
    }

    private static String eightParts() {
        return "part a 1;part b 1;part c 1;part d 1;part e 1;part f 1;part g 1;part h 1;";
    }

    private static void clauses() {
        taken("part a 1; fault a off 1;");
        refused("part a 1; fault a off 1; fault ^a off 1;", TOLD_ALREADY);
        refused("part a 1; fault ^abcdefghi off 1;", TOO_MUCH);
        refused("part a 1; fault ^off off 1;", CANNOT_STAND);
        refused("part a 1; fault ^7 off 1;", CANNOT_STAND);
        refused("part a 1; fault x ^1;", CANNOT_STAND);
        refused("part a 1; fault x ^offs 1;", CANNOT_STAND);
        refused("part a 1; fault x off ^;", CANNOT_STAND);
        refused("part a 1; fault x off 1^", CANNOT_STAND);
        refused("part a 1; ^x;", CANNOT_STAND);
        refused("part a 1; ^5;", CANNOT_STAND);
        refused("part a 1; ^time 5;", CANNOT_STAND);
        refused("part a 1; ^retired;", CANNOT_STAND);
        refused("part a 1; out ^;", CANNOT_STAND);
        taken("part a 1; best 20; best 1; limit 9999; limit 1; out 1; out 0;");
        refused("part a 1; best ^0;", TOO_MUCH);
        refused("part a 1; best ^21;", TOO_MUCH);
        refused("part a 1; best ^n;", CANNOT_STAND);
        refused("part a 1; limit ^0;", TOO_MUCH);
        refused("part a 1; limit ^10000;", TOO_MUCH);
        refused("part a 1; limit ^;", CANNOT_STAND);
        refused("part a 1; limit 5 ^5;", CANNOT_STAND);
        String ten = "";
        for (char c = 'a'; c < 'k'; c++) {
            ten += "fault " + c + " off 1;";
        }
        taken("part a 1;" + ten);
        refused("part a 1;" + ten + "^fault k off 1;", TOO_MUCH);
        refused("part a 1;" + ten + "^fault;", TOO_MUCH);
        taken("part a 1;" + ten + "best 1;");
        taken("part a 1;" + times("best 1;", 20));
        refused("part a 1;" + times("best 1;", 20) + "^best 1;", TOO_MUCH);
        refused("part a 1;" + times("out 1;", 20) + "^out 1;", TOO_MUCH);
        refused("part a 1;" + times("out 1;", 20) + "^limit;", TOO_MUCH);
        refused("part a 1;" + times("out 1;", 20) + "^tie a;", TOO_MUCH);
        refused("part a 1;" + times("out 1;", 20) + "^fault a off 1;", TOO_MUCH);
        refused("part a 1;" + times("out 1;", 20) + "^part b 1;", CANNOT_STAND);
        refused("part a 1;" + times("out 1;", 20) + "^x", CANNOT_STAND);
    }

    private static void ties() {
        taken("part a 1; tie a;");
        taken("part a 1; tie time;");
        taken("part a 1; part b 1; tie b, time ,a; tie a;");
        refused("part a 1; tie ^;", CANNOT_STAND);
        refused("part a 1; tie a^", CANNOT_STAND);
        refused("part a 1; tie a ^a;", CANNOT_STAND);
        refused("part a 1; tie a,^;", CANNOT_STAND);
        refused("part a 1; tie ^5;", CANNOT_STAND);
        refused("part a 1; tie ^left;", CANNOT_STAND);
        refused("part a 1; tie ^b;", NOT_KNOWN);
        refused("part a 1; fault b off 1; tie ^b;", NOT_KNOWN);
        refused("part a 1; tie a, ^a;", TOLD_ALREADY);
        refused("part a 1; tie time, a, ^time;", TOLD_ALREADY);
        refused("part a 1; tie ^abcdefghi;", TOO_MUCH);
        taken(eightParts() + "tie a,b,c,d,e,f,g,h;");
        taken(eightParts() + "tie a,b,c,time,e,f,g,h;");
        refused(eightParts() + "tie a,b,c,d,e,f,g,h,^time;", TOO_MUCH);
        refused(eightParts() + "tie time,b,c,d,e,f,g,h,^a;", TOO_MUCH);
        refused(eightParts() + "tie a,b,c,d,e,f,g,h,^a;", TOO_MUCH);
        refused(eightParts() + "tie a,b,c,d,e,f,g,h,^zz;", TOO_MUCH);
        refused(eightParts() + "tie a,b,c,d,e,f,g,h,^off;", CANNOT_STAND);
        refused(eightParts() + "tie a,b,c,d,e,f,g,h,^;", CANNOT_STAND);
    }

    private static void expressions() {
        taken("part a 1; out n+nth*hour/wind-left<total+time;");
        refused("part a 1; out 1<2^=0;", CANNOT_STAND);
        refused("part a 1; out 1=2^<0;", CANNOT_STAND);
        taken("part a 1; out (1=2)<0;");
        taken("part a 1; out 1=2 or 1<2 and not 1=3;");
        taken("part a 1; out 99999;");
        refused("part a 1; out ^100000;", TOO_MUCH);
        refused("part a 1; out 1+^000000;", TOO_MUCH);
        refused("part a 1; out 1 ^2;", CANNOT_STAND);
        refused("part a 1; out 1 ^not 2;", CANNOT_STAND);
        refused("part a 1; out 1 ^n;", CANNOT_STAND);
        refused("part a 1; out 1 ^(2);", CANNOT_STAND);
        refused("part a 1; out 1 ^,2;", CANNOT_STAND);
        refused("part a 1; out ^-1;", CANNOT_STAND);
        refused("part a 1; out 1+^;", CANNOT_STAND);
        refused("part a 1; out 1+^+1;", CANNOT_STAND);
        refused("part a 1; out 1+^*1;", CANNOT_STAND);
        refused("part a 1; out ^)1;", CANNOT_STAND);
        refused("part a 1; out (^);", CANNOT_STAND);
        refused("part a 1; out (1^;", CANNOT_STAND);
        refused("part a 1; out (1^", CANNOT_STAND);
        refused("part a 1; out 1^);", CANNOT_STAND);
        refused("part a 1; out ^a;", NOT_KNOWN);
        refused("part a 1; out ^abcdefghi;", NOT_KNOWN);
        refused("part a 1; out ^part;", NOT_KNOWN);
        refused("part a 1; out ^or 1;", NOT_KNOWN);
        refused("part a 1; out 1 or ^and;", NOT_KNOWN);
        refused("part a 1; out 1 + ^not 1;", NOT_KNOWN);
        refused("part a 1; out 1 < ^not 1;", NOT_KNOWN);
        refused("part a 1; out not ^ns;", NOT_KNOWN);
        refused("part a 1; out not^", CANNOT_STAND);
        refused("part a 1; out 1^!2;", CANNOT_STAND);
        refused("part a 1; out ^!;", CANNOT_STAND);
    }

    private static void depths() {
        taken("part a 1; out " + times("(", 5) + "1" + times(")", 5) + ";");
        taken("part a 1; out " + times("(1+", 5) + "1" + times(")", 5) + ";");
        taken("part a 1; out " + times("(", 5) + "1" + times(")", 5) + "+(1)+((2));");
        refused("part a 1; out ((((((^1))))));", TOO_MUCH);
        refused("part a 1; out ((((((^n))))));", TOO_MUCH);
        refused("part a 1; out ((((((^foo))))));", TOO_MUCH);
        refused("part a 1; out ((((((^not 1))))));", TOO_MUCH);
        refused("part a 1; out ((((((^(1)))))));", TOO_MUCH);
        refused("part a 1; out ((((((^1000000", TOO_MUCH);
        refused("part a 1; out ((((((^)", CANNOT_STAND);
        refused("part a 1; out ((((((^;", CANNOT_STAND);
        refused("part a 1; out ((((((^", CANNOT_STAND);
        refused("part a 1; out ((((((^+1", CANNOT_STAND);
        refused("part a 1; out ((((((^!", CANNOT_STAND);
        taken("part a 1; out " + times("not ", 6) + "1;");
        refused("part a 1; out " + times("not ", 6) + "^not 1;", TOO_MUCH);
        taken("part a 1; out " + times("not ", 6) + "(" + times("not ", 6) + "1);");
        taken("part a 1; out " + times("not ", 6) + "1 and " + times("not ", 6) + "1;");
        String long600 = "part a 1; out 1" + times("+1", 292) + ";";
        Check.due("bytes", long600.length(), 600);
        taken(long600);
    }

    private static void calls() {
        DogTrials x = new DogTrials();
        Check.due("fault of a new object", x.fault(), -1);
        Check.due("rules(0)", x.rules(0), -2);
        Check.due("fault", x.fault(), 0);
        Check.illegalArgument("rules(1) of an empty tape", () -> x.rules(1));
        Check.due("fault stays", x.fault(), 0);
        Check.feed(x, "part a 1; x");
        Check.illegalArgument("rules(-1)", () -> x.rules(-1));
        Check.illegalArgument("rules(21)", () -> x.rules(21));
        Check.illegalArgument("rules(2^31 - 1)", () -> x.rules(Integer.MAX_VALUE));
        Check.illegalArgument("rules(-2^31)", () -> x.rules(Integer.MIN_VALUE));
        Check.due("the tape stays", x.count(10), 20);
        Check.due("the first bytes alone", x.rules(9), 0);
        Check.due("the whole tape is empty", x.count(10), 0);
        Check.due("no FAULT", x.fault(), -1);
        for (int i = 1; i < 6; i++) {
            Check.due("a FAULT between", Check.rules(x, "part a 0;"), -3);
            Check.due("its place", x.fault(), 7);
            Check.due("number", Check.rules(x, "part a 1;"), i);
            Check.due("no FAULT", x.fault(), -1);
        }
        Check.feed(x, "part a 0;");
        Check.illegalArgument("the tape has not so many, with 6", () -> x.rules(21));
        Check.due("the tape stays with 6", x.count(10), 20);
        Check.due("there are 6, ahead of a FAULT", x.rules(9), -9);
        Check.due("the tape is empty then, too", x.count(10), 0);
        Check.due("no FAULT", x.fault(), -1);
        Check.due("there are 6", Check.rules(x, "part a 1;"), -9);
        Check.due("RULES", x.count(4), 6);
    }
}
