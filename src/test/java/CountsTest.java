/** Promises 1 (a new object), 2 (comes), 6 (feed), 9 (days), 26 (count). */
final class CountsTest {
    public static void main(String[] args) {
        newObject();
        comes();
        feed();
        days();
        counts();
        Check.end();
    }

    private static void newObject() {
        DogTrials x = new DogTrials();
        for (int what = 0; what <= 10; what++) {
            Check.due("count(" + what + ") of a new object", x.count(what), 0);
        }
        Check.due("fault()", x.fault(), -1);
        Check.due("drawn(NONE)", x.drawn(-1), 0);
        Check.due("draw of an empty list", x.draw(1, 1), -1);
        Check.due("ladder(NONE)", x.ladder(0, 999, -1, 0), 0);
        Check.due("luck, scale", x.days(0), 0);
        Check.noSuchElement("kin(0, 0)", () -> x.kin(0, 0));
        Check.noSuchElement("inbred(0)", () -> x.inbred(0));
        Check.noSuchElement("trial", () -> x.trial(0, 0, 0));
        Check.noSuchElement("run", () -> x.run(0, 0, 0, 0, 0));
        Check.noSuchElement("card", () -> x.card(0, 0));
        Check.noSuchElement("told", () -> x.told(0, 0, 0));
        Check.noSuchElement("took", () -> x.took(0, 0, 0));
        Check.noSuchElement("protest", () -> x.protest(0));
        Check.noSuchElement("decide", () -> x.decide(0, 0, 0) ? 1 : 0);
        Check.noSuchElement("sum", () -> x.sum(0, 0, 0, 0));
        Check.noSuchElement("enters", () -> x.enters(0));
        Check.noSuchElement("scale", () -> x.scale(0, 0, 0));
        Check.noSuchElement("luck", () -> x.luck(0, 0, 0));
        DogTrials y = new DogTrials();
        y.comes(0);
        Check.due("an object has its own JUDGES", x.count(1), 0);
    }

    private static void comes() {
        DogTrials x = new DogTrials();
        for (int i = 0; i < 6; i++) {
            Check.due("comes(0)", x.comes(0), i);
        }
        Check.due("the 7th JUDGE", x.comes(0), -1);
        for (int i = 0; i < 12; i++) {
            Check.due("comes(1)", x.comes(1), i);
        }
        Check.due("the 13th PACKET", x.comes(1), -1);
        Check.noSuchElement("comes(2)", () -> x.comes(2));
        Check.noSuchElement("comes(-1)", () -> x.comes(-1));
        Check.due("JUDGES", x.count(1), 6);
        Check.due("PACKETS", x.count(2), 12);
    }

    private static void feed() {
        DogTrials x = new DogTrials();
        for (int i = 1; i <= 30; i++) {
            Check.due("feed", x.feed(-1, 0, Integer.MIN_VALUE, Integer.MAX_VALUE, 7), 20 * i);
        }
        Check.due("the 31st", x.feed(1, 2, 3, 4, 5), -1);
        Check.due("none come", x.count(10), 600);
        DogTrials y = new DogTrials();
        y.feed('p' << 24 | 'a' << 16 | 'r' << 8 | 't', ' ' << 24 | 'a' << 16 | ' ' << 8 | '5', ';' << 24, 0, 0);
        Check.due("the highest byte first", y.rules(9), 0);
        y.feed('p' << 24 | 'a' << 16 | 'r' << 8 | 't', ' ' << 24 | 'a' << 16 | ' ' << 8 | '5', ';' << 24, 0, 0);
        Check.due("a byte 0 is no TOKEN", y.rules(10), -2);
        Check.due("its place", y.fault(), 9);
        y.feed(' ' << 24, 0xE4 << 24, 0, 0, 0);
        Check.due("a byte above 127", y.rules(20), -2);
        Check.due("its place", y.fault(), 1);
        for (int i = 1; i <= 30; i++) {
            y.feed(0x20202020, 0x0a0a0a0a, 0x20202020, 0x20202020, 0x20202020);
        }
        Check.due("600 blanks", y.rules(600), -2);
        Check.due("it ends too soon", y.fault(), 600);
        Check.due("the tape is empty, so bytes come again", y.feed(0, 0, 0, 0, 0), 20);
    }

    private static void days() {
        DogTrials x = new DogTrials();
        Check.due("days(0)", x.days(0), 0);
        Check.illegalArgument("days(-1)", () -> x.days(-1));
        Check.illegalArgument("days(1000)", () -> x.days(1000));
        Check.due("days(998)", x.days(998), 998);
        Check.illegalArgument("days(2)", () -> x.days(2));
        Check.illegalArgument("days(2^31 - 1)", () -> x.days(Integer.MAX_VALUE));
        Check.illegalArgument("days(-2^31)", () -> x.days(Integer.MIN_VALUE));
        Check.due("days(1)", x.days(1), 999);
        Check.illegalArgument("days(1) at the end", () -> x.days(1));
        Check.due("days(0)", x.days(0), 999);
        Check.due("TODAY", x.count(0), 999);
    }

    private static void counts() {
        DogTrials x = Check.ground(2, 3, 4);
        Check.rules(x, "part a 5;");
        for (int i = 0; i < 6; i++) {
            x.trial(0, i, 0);
        }
        for (int i = 0; i < 7; i++) {
            x.run(0, 0, 0, 0, 0);
        }
        for (int i = 0; i < 8; i++) {
            Check.card(x, 0, "a;");
        }
        Check.card(x, 0, "b;");
        for (int i = 0; i < 9; i++) {
            x.protest(0);
        }
        x.enters(0);
        x.enters(1);
        x.feed(0, 0, 0, 0, 0);
        x.days(77);
        int[] due = {77, 2, 3, 4, 1, 6, 7, 8, 9, 2, 20};
        for (int what = 0; what < due.length; what++) {
            Check.due("count(" + what + ")", x.count(what), due[what]);
        }
        x.list();
        Check.due("DOGS in the list", x.count(9), 0);
        Check.noSuchElement("count(-1)", () -> x.count(-1));
        Check.noSuchElement("count(11)", () -> x.count(11));
    }
}
