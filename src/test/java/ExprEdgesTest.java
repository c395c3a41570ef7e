/** Boundary cases of EXPRS (Terms, part 2): what may stand, how deep, and what they are worth. */
final class ExprEdgesTest {
    private static final int CANNOT_STAND = Texts.CANNOT_STAND;
    private static final int TOO_MUCH = Texts.TOO_MUCH;
    private static final int NOT_KNOWN = Texts.NOT_KNOWN;
    private static final String HEAD = "part a 99;fault f off ";
    /** The greatest int. */
    private static final String MOST = "(65536*32767+65535)";
    /** The least int. */
    private static final String LEAST = "(65536*32768)";

    public static void main(String[] args) {
        within();
        withinToken();
        nots();
        points();
        values();
        oneTest();
        fromTheLeft();
        whatBindsMore();
        wraps();
        cutDownToZero();
        byZero();
        testsAreOneOrZero();
        whatIsNotZeroHolds();
        deepest();
        longest();
        Check.end();
    }

    private static void taken(String expression) {
        Texts.rulesTaken(HEAD + expression + ";");
        Texts.rulesTaken("part a 99;out " + expression + ";");
    }

    private static void refused(String marked, int fault) {
        Texts.rulesRefused(HEAD + marked, fault);
        Texts.rulesRefused("part a 99;out " + marked, fault);
    }

    /** What the fault takes off 99 points, with the NUMBER 7 behind it, at HOUR 9. */
    private static void worth(String expression, int due) {
        DogTrials x = Check.trial(HEAD + expression + ";", 1);
        Check.due("card of " + expression, Check.card(x, 0, "a f 7;"), 0);
        Check.due(expression, x.took(0, 0, 0), due);
    }

    private static void within() {
        Check.sentence("2 the first TOKEN (a NUMBER, any word, a parenthesis) of an EXPR within 6 others");
        taken("(((((1)))))");
        refused("((((((^1))))));", TOO_MUCH);
        refused("((((((^n))))));", TOO_MUCH);
        refused("((((((^zz))))));", TOO_MUCH);
        refused("((((((^abcdefghi))))));", TOO_MUCH);
        refused("((((((^not n))))));", TOO_MUCH);
        refused("((((((^part))))));", TOO_MUCH);
        refused("((((((^or))))));", TOO_MUCH);
        refused("((((((^(1)))))));", TOO_MUCH);
        refused("((((((^100000))))));", TOO_MUCH);
        refused("1+(1*(1-(1/(1<(not (^1))))));", TOO_MUCH);
        taken("1+(1*(1-(1/(1<(1)))))");
        taken("(((((1)))))+(((((2)))))");
        refused("(((((1)))))+((((((^2))))));", TOO_MUCH);
        taken("(((((1)+1)+1)+1)+1)+1");
    }

    private static void withinToken() {
        Check.sentence("1 a TOKEN that can't stand there: as the first of an EXPR, within 6 others too");
        for (String bad : new String[] {"^)", "^;", "^,", "^+1", "^-1", "^*1", "^/1", "^<1", "^=1", "^!", "^A", "^"}) {
            refused(bad, CANNOT_STAND);
            refused("(" + bad, CANNOT_STAND);
            refused("(((((" + bad, CANNOT_STAND);
            refused("((((((" + bad, CANNOT_STAND);
        }
    }

    private static void nots() {
        Check.sentence("2 .. the seventh 'not' side by side");
        for (int i = 0; i <= 6; i++) {
            worth("not ".repeat(i) + "1", 1 - i % 2);
            worth("not ".repeat(i) + "0", i % 2);
        }
        refused("not ".repeat(6) + "^not 1;", TOO_MUCH);
        refused("not ".repeat(6) + "^not", TOO_MUCH);
        refused("1 and " + "not ".repeat(6) + "^not 1;", TOO_MUCH);
        refused("(" + "not ".repeat(6) + "^not 1);", TOO_MUCH);
        taken("not ".repeat(6) + "(" + "not ".repeat(6) + "1)");
        taken("not ".repeat(6) + "1 and " + "not ".repeat(6) + "1 or " + "not ".repeat(6) + "1");
        refused("not ".repeat(6) + "^;", CANNOT_STAND);
        refused("not ".repeat(6) + "^or;", NOT_KNOWN);
    }

    private static void points() {
        Check.sentence("3 a word that can stand but isn't known: any where a POINT must stand that is no VALUE");
        String[] ahead = {"", "1+", "1-", "1*", "1/", "1<", "1=", "1 or ", "1 and ", "not ", "("};
        for (String a : ahead) {
            boolean canBeNot = a.isEmpty() || a.endsWith(" ") || a.equals("(");
            for (String word : Texts.KEYWORDS) {
                if (!Texts.isIn(Texts.VALUES, word) && !(canBeNot && word.equals("not"))) {
                    refused(a + "^" + word + " 1;", NOT_KNOWN);
                }
            }
            refused(a + "^a 1;", NOT_KNOWN);
            refused(a + "^f 1;", NOT_KNOWN);
            refused(a + "^abcdefgh 1;", NOT_KNOWN);
            refused(a + "^abcdefghi 1;", NOT_KNOWN);
            refused(a + "^;", CANNOT_STAND);
            refused(a + "^", CANNOT_STAND);
            refused(a + "^100000;", TOO_MUCH);
        }
    }

    private static void values() {
        Check.sentence("VALUE: n nth hour wind left total time");
        for (String value : Texts.VALUES) {
            taken(value);
            refused("^" + value + "x;", NOT_KNOWN);
            refused("^x" + value + ";", NOT_KNOWN);
            refused("1 ^" + value + ";", CANNOT_STAND);
        }
        refused("^nt;", NOT_KNOWN);
        refused("^nthh;", NOT_KNOWN);
    }

    private static void oneTest() {
        Check.sentence("NOT: 'not' NOT | SUM [('<' | '=') SUM]");
        taken("1<2");
        taken("1=2");
        taken("(1<2)<3");
        refused("1<2^<3;", CANNOT_STAND);
        refused("1<2^=3;", CANNOT_STAND);
        refused("1=2^=3;", CANNOT_STAND);
        refused("1=2^<3;", CANNOT_STAND);
        taken("1<2 and 1<2 or not 1=2");
        refused("1<^=2;", CANNOT_STAND);
        refused("1 ^not 2;", CANNOT_STAND);
    }

    private static void fromTheLeft() {
        Check.sentence("From the left");
        worth("9-3-2", 4);
        worth("9-3+2", 8);
        worth("80/4/2", 10);
        worth("9/2*2", 8);
        worth("3*5/2", 7);
        worth("0 or 1 or 0", 1);
        worth("1 and 0 and 1", 0);
    }

    private static void whatBindsMore() {
        Check.sentence("EXPR: AND ('or' AND)*. AND: NOT ('and' NOT)*. SUM: PRODUCT .. PRODUCT: POINT ..");
        worth("1 or 0 and 0", 1);
        worth("0 and 0 or 1", 1);
        worth("not 1 or 1", 1);
        worth("not 0 and 0", 0);
        worth("not 2<1", 1);
        worth("not 1=2", 1);
        worth("1+2<3", 0);
        worth("1+2=3", 1);
        worth("1+2*3", 7);
        worth("8-6/2", 5);
        worth("(1+2)*3", 9);
    }

    private static void wraps() {
        Check.sentence("ints that wrap");
        worth(MOST + "+1<0", 1);
        worth(MOST + "<0", 0);
        worth(MOST + "+1=" + LEAST, 1);
        worth(LEAST + "<0", 1);
        worth(LEAST + "-1=" + MOST, 1);
        worth(LEAST + "-1<0", 0);
        worth("0-" + LEAST + "=" + LEAST, 1);
        worth("65536*65536", 0);
        worth("65536*65536+5", 5);
        worth(MOST + "*2+7", 5);
        worth(LEAST + "*(0-1)=" + LEAST, 1);
        worth("99999*99999=99999*99999-65536*65536", 1);
        worth("99999*99999=14098*99999+79507", 1);
        worth("99999*99999/99999/1000", 14);
    }

    private static void cutDownToZero() {
        Check.sentence("/ cut down to 0");
        worth("7/2", 3);
        worth("10+(0-7)/2", 7);
        worth("10+7/(0-2)", 7);
        worth("10-(0-7)/(0-2)", 7);
        worth("10+(0-1)/2", 10);
        worth("1/2", 0);
        worth("2/2", 1);
        worth(LEAST + "/(0-1)=" + LEAST, 1);
        worth(MOST + "/(0-1)+1=" + LEAST + "+2", 1);
    }

    private static void byZero() {
        Check.sentence("by 0 gives 0");
        worth("5/0+3", 3);
        worth("0/0+3", 3);
        worth("(0-5)/0+3", 3);
        worth(LEAST + "/0+3", 3);
        worth("n/(n-7)+3", 3);
        worth("5/total+3", 3);
        worth("5/0/0+3", 3);
        worth("5/0*9+3", 3);
    }

    private static void testsAreOneOrZero() {
        Check.sentence("tests, not, and, or are 1 or 0");
        worth("2<3", 1);
        worth("3<3", 0);
        worth("4<3", 0);
        worth("3=3", 1);
        worth("2=3", 0);
        worth("4=3", 0);
        worth("0-1<0", 1);
        worth(LEAST + "<" + MOST, 1);
        worth(MOST + "<" + LEAST, 0);
        worth("not 5", 0);
        worth("not 0", 1);
        worth("5 and 6", 1);
        worth("5 and 0", 0);
        worth("0 and 5", 0);
        worth("0 and 0", 0);
        worth("5 or 6", 1);
        worth("5 or 0", 1);
        worth("0 or 5", 1);
        worth("0 or 0", 0);
    }

    private static void whatIsNotZeroHolds() {
        Check.sentence("(what isn't 0 holds)");
        worth("0-1 and 0-1", 1);
        worth("0-1 or 0", 1);
        worth("0 or 0-1", 1);
        worth("not (0-1)", 0);
        worth(LEAST + " and 1", 1);
        worth("not " + LEAST, 0);
        worth("65536*65536 or 0", 0);
        worth("not (65536*65536)", 1);
    }

    private static void deepest() {
        Check.sentence("an EXPR within 5 others, with all that can wait in each of them");
        String wait = "0 or 1 and 0<0+1*(";
        worth(wait.repeat(5) + "0 or 1 and 0<0+1*n" + ")".repeat(5), 1);
        worth(wait.repeat(5) + "0 or 1 and 0<0+1*0" + ")".repeat(5), 0);
        String sum = "1+1*(";
        worth(sum.repeat(5) + "1+1*n" + ")".repeat(5), 13);
        String not = "not not (";
        worth(not.repeat(5) + "n" + ")".repeat(5), 1);
        worth("0 or 0 and 0<0+0*(".repeat(5) + "7" + ")".repeat(5), 0);
    }

    private static void longest() {
        Check.sentence("an EXPR as long as TEXTS, at most 600 bytes, let it be");
        worth("1" + "+1".repeat(95) + "-0".repeat(190), 96);
        worth("not not not not not not 1 and ".repeat(18) + "n", 1);
        worth("not not not not not not 1 and ".repeat(18) + "0", 0);
        worth("(((((1)))))+".repeat(47) + "2", 49);
    }
}
