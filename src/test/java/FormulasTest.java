/** What EXPRS are worth (Terms, part 2), asked with took() of a fault or told() of 'out'. */
final class FormulasTest {
    public static void main(String[] args) {
        values();
        arithmetic();
        tests();
        outs();
        Check.end();
    }

    /** What the fault f takes off 99 points, once, with the NUMBER 7 behind it, at HOUR 13, WIND 4. */
    private static void off(String expression, int due) {
        DogTrials x = Check.ground(1, 1, 1);
        Check.due("rules of " + expression, Check.rules(x, "part a 99; fault f off " + expression + ";"), 0);
        x.trial(0, 0, 0);
        x.run(0, 0, 0, 13, 4);
        Check.due("card of " + expression, Check.card(x, 0, "a f 7; time 600;"), 0);
        Check.due(expression, x.took(0, 0, 0), due);
        Check.due("what is left of " + expression, x.told(0, 10, 0), 99 - due);
    }

    /** Whether a RUN with 20 of 25 points in 600 at HOUR 13, WIND 4, is OUT. */
    private static void out(String expression, int due) {
        DogTrials x = Check.ground(1, 1, 1);
        Check.due("rules of " + expression,
            Check.rules(x, "part a 25; fault f off 5; out " + expression + ";"), 0);
        x.trial(0, 0, 0);
        x.run(0, 0, 0, 13, 4);
        Check.due("card of " + expression, Check.card(x, 0, "a f 7; time 600;"), 0);
        Check.due("out " + expression, x.told(0, 2, 0), due);
        Check.due("it counts, out " + expression, x.told(0, 3, 0), 1 - due);
    }

    private static void values() {
        off("n", 7);
        off("nth", 1);
        off("hour", 13);
        off("wind", 4);
        off("left", 99);
        off("total", 0);
        off("time", 0);
        off("5", 5);
        off("00005", 5);
        off("0", 0);
        off("99999", 99);
        off("0-1", 0);
        off("0-99999", 0);
        off("98", 98);
    }

    private static void arithmetic() {
        off("1+2*3", 7);
        off("(1+2)*3", 9);
        off("20-5-3", 12);
        off("20-(5-3)", 18);
        off("40/2/5", 4);
        off("40/(10/5)", 20);
        off("7*9/10", 6);
        off("7/10*9", 0);
        off("10/4*4", 8);
        off("n/0", 0);
        off("1+n/(n-7)", 1);
        off("10+(0-7)/2", 7);
        off("10+7/(0-2)", 7);
        off("10-(0-7)/(0-2)", 7);
        off("50+1-2+3*2", 55);
        off("65536*65536", 0);
        off("65536*65536+3", 3);
        off("65536*32768", 0);
        off("1-65536*32768 < 0", 1);
        off("65536*32768/(0-1) < 0", 1);
        off("65536*32768/(0-1) = 65536*32768", 1);
        off("46341*46341 < 0", 1);
    }

    private static void tests() {
        off("1<2", 1);
        off("2<2", 0);
        off("3<2", 0);
        off("2=2", 1);
        off("2=1", 0);
        off("0-1<0", 1);
        off("5 and 7", 1);
        off("5 and 0", 0);
        off("0 or 9", 1);
        off("0 or 0", 0);
        off("0-3 or 0", 1);
        off("not 0", 1);
        off("not 5", 0);
        off("not not 5", 1);
        off("not not not 5", 0);
        off("not 1 < 2", 0);
        off("not 2 < 1", 1);
        off("(not 1) < 2", 1);
        off("not 0 + 1", 0);
        off("(not 0) + 1", 2);
        off("1 or 1 and 0", 1);
        off("(1 or 1) and 0", 0);
        off("not 0 and 0", 0);
        off("not (0 and 0)", 1);
        off("0 and 0 or 1", 1);
        off("0 and (0 or 1)", 0);
        off("1 + 1 = 2", 1);
        off("1 + (1 = 2)", 1);
        off("(2 < 3) = 1", 1);
        off("1 = 1 and 2 < 3 or 0", 1);
        off("(n = 7) * 20 + (wind < 4) * 30", 20);
        off("((((1)+2)*3)+4)", 13);
        off("0 or 1 and 0 < 0 + 1 * (".repeat(5) + "0 or 1 and 0 < 0 + 1 * n" + ")".repeat(5), 1);
        off("0 or 1 and 0 < 0 + 1 * (".repeat(5) + "0 or 1 and 0 < 0 + 1 * total" + ")".repeat(5), 0);
    }

    private static void outs() {
        out("0", 0);
        out("1", 1);
        out("0-1", 1);
        out("total = 20", 1);
        out("total < 20", 0);
        out("time = 600", 1);
        out("hour = 13", 1);
        out("wind = 4", 1);
        out("n", 0);
        out("nth", 0);
        out("left", 0);
        out("0; out 0; out 7", 1);
        out("7; out 0", 1);
        out("0; out 0", 0);
    }
}
