/** Boundary cases of promises 1 to 5 and of Terms, part 1: a test for each sentence. */
final class DogEdgesTest {
    private static final int NONE = DogTrials.NONE;
    private static final long WHOLE = 1L << 40;
    private static final int[] FAR = {Integer.MIN_VALUE, -1000000, -2, 1000000, Integer.MAX_VALUE};

    public static void main(String[] args) {
        objects();
        newObject();
        newObjectRefuses();
        judges();
        packets();
        comesAnother();
        mostDogs();
        handlers();
        sires();
        dams();
        oneParentTwice();
        refusedDogs();
        unlikeKin();
        greaterNumber();
        unknownGivesNothing();
        itself();
        partsOfTheWhole();
        noSuchDog();
        inbred();
        Check.end();
    }

    private static void objects() {
        Check.sentence("An object is used for at most 512 calls after it has been made");
        DogTrials x = new DogTrials();
        for (int call = 1; call <= 510; call++) {
            Check.due("call " + call, x.days(1), call);
        }
        Check.due("call 511", x.count(0), 510);
        Check.due("call 512", x.days(489), 999);
        DogTrials y = new DogTrials();
        for (int call = 1; call <= 511; call++) {
            Check.due("call " + call, y.feed(call, call, call, call, call), call <= 30 ? 20 * call : NONE);
        }
        Check.due("call 512", y.count(10), 600);
    }

    private static void newObject() {
        Check.sentence("A new object: No DOGS, JUDGES, PACKETS, RULES; TODAY 0");
        DogTrials x = new DogTrials();
        for (int what = 0; what <= 10; what++) {
            Check.due("count(" + what + ")", x.count(what), 0);
        }
        Check.due("fault()", x.fault(), NONE);
        Check.due("drawn(NONE)", x.drawn(NONE), 0);
        Check.due("ladder(NONE)", x.ladder(0, 999, NONE, 0), 0);
        Check.due("the first JUDGE", x.comes(0), 0);
        Check.due("the first PACKET", x.comes(1), 0);
        Check.due("the first DOG", x.dog(0, NONE, NONE), 0);
        Check.due("the first RULES", Check.rules(x, "part a 1;"), 0);
        Check.due("the first TRIAL", x.trial(0, 0, 0), 0);
        Check.due("the first RUN", x.run(0, 0, 0, 0, 0), 0);
        Check.due("the first CARD", Check.card(x, 0, "a;"), 0);
        Check.due("the first PROTEST", x.protest(0), 0);
        Check.due("the first DOG of the list", x.enters(0), 1);
        DogTrials y = new DogTrials();
        Check.due("another object has none of these", y.count(1) + y.count(3) + y.count(4) + y.count(9), 0);
    }

    private static void newObjectRefuses() {
        Check.sentence("NoSuchElementException: no such .. (as everywhere), of a new object");
        DogTrials x = new DogTrials();
        Check.noSuchElement("kin", () -> x.kin(0, 0));
        Check.noSuchElement("inbred", () -> x.inbred(0));
        Check.noSuchElement("trial", () -> x.trial(0, 0, 0));
        Check.noSuchElement("run", () -> x.run(0, 0, 0, 0, 0));
        Check.noSuchElement("card", () -> x.card(0, 0));
        Check.noSuchElement("told", () -> x.told(0, 0, 0));
        Check.noSuchElement("took", () -> x.took(0, 0, 0));
        Check.noSuchElement("protest", () -> x.protest(0));
        Check.noSuchElement("decide", () -> x.decide(0, 0, 0) ? 1 : 0);
        Check.noSuchElement("ladder", () -> x.ladder(0, 999, 0, 0));
        Check.noSuchElement("sum", () -> x.sum(0, 0, 999, 0));
        Check.noSuchElement("enters", () -> x.enters(0));
        Check.noSuchElement("drawn", () -> x.drawn(0));
        Check.noSuchElement("scale", () -> x.scale(0, 0, 0));
        Check.noSuchElement("luck", () -> x.luck(0, 0, 0));
        Check.due("draw", x.draw(0, 1), NONE);
    }

    private static void judges() {
        Check.sentence("JUDGES, from 0 on, at most 6; NONE: there are 6");
        DogTrials x = new DogTrials();
        for (int i = 0; i < 6; i++) {
            Check.due("comes(0)", x.comes(0), i);
            Check.due("JUDGES", x.count(1), i + 1);
        }
        Check.none(x, "the 7th", () -> x.comes(0));
        Check.none(x, "the 7th again", () -> x.comes(0));
        Check.due("a PACKET comes all the same", x.comes(1), 0);
        Check.due("JUDGE 5 is there", x.scale(5, 2, 0), 5);
        Check.noSuchElement("JUDGE 6 isn't", () -> x.scale(6, 2, 0));
    }

    private static void packets() {
        Check.sentence("PACKETS of sheep, from 0 on, at most 12; NONE: there are 12");
        DogTrials x = Check.trial("part a 1;", 0);
        for (int i = 1; i < 12; i++) {
            Check.due("comes(1)", x.comes(1), i);
            Check.due("PACKETS", x.count(2), i + 1);
        }
        Check.none(x, "the 13th", () -> x.comes(1));
        Check.none(x, "the 13th again", () -> x.comes(1));
        Check.due("a JUDGE comes all the same", x.comes(0), 1);
        Check.due("PACKET 11 is there", x.run(0, 0, 11, 0, 0), 0);
        Check.noSuchElement(x, "PACKET 12 isn't", () -> x.run(0, 0, 12, 0, 0));
    }

    private static void comesAnother() {
        Check.sentence("comes: NoSuchElementException: another what");
        DogTrials x = new DogTrials();
        for (int what : new int[] {-1, 2, Integer.MIN_VALUE, Integer.MAX_VALUE}) {
            Check.noSuchElement(x, "comes(" + what + ")", () -> x.comes(what));
        }
        DogTrials full = Check.ground(6, 12, 0);
        Check.noSuchElement(full, "comes(2) with all there", () -> full.comes(2));
        Check.noSuchElement(full, "comes(-1) with all there", () -> full.comes(-1));
    }

    private static void mostDogs() {
        Check.sentence("DOGS, from 0 on, at most 24; NONE: there are 24");
        DogTrials x = new DogTrials();
        for (int i = 0; i < 24; i++) {
            Check.due("dog", x.dog(0, NONE, NONE), i);
            Check.due("DOGS", x.count(3), i + 1);
        }
        Check.none(x, "the 25th", () -> x.dog(0, NONE, NONE));
        Check.none(x, "the 25th, of DOGS that are there", () -> x.dog(11, 23, 22));
        Check.none(x, "the 25th, not as told", () -> x.dog(12, NONE, NONE));
        Check.due("DOG 23 is there", x.kin(23, 23), WHOLE / 2);
        Check.noSuchElement("DOG 24 isn't", () -> x.kin(24, 24));
    }

    private static void handlers() {
        Check.sentence("a HANDLER (0 to 11); NONE: a number is not as told");
        DogTrials x = new DogTrials();
        Check.none(x, "HANDLER -1", () -> x.dog(-1, NONE, NONE));
        Check.none(x, "HANDLER 12", () -> x.dog(12, NONE, NONE));
        for (int far : FAR) {
            Check.none(x, "HANDLER " + far, () -> x.dog(far, NONE, NONE));
        }
        for (int handler = 0; handler <= 11; handler++) {
            Check.due("HANDLER " + handler, x.dog(handler, NONE, NONE), handler);
        }
    }

    private static void sires() {
        Check.sentence("a sire: a DOG ahead of it, or not known (NONE); NONE: a number is not as told");
        DogTrials x = new DogTrials();
        Check.none(x, "of the first DOG, 0", () -> x.dog(0, 0, NONE));
        Check.due("not known", x.dog(0, NONE, NONE), 0);
        Check.due("the first one", x.dog(0, 0, NONE), 1);
        Check.due("the last one", x.dog(0, 1, NONE), 2);
        Check.none(x, "itself", () -> x.dog(0, 3, NONE));
        Check.none(x, "one behind it", () -> x.dog(0, 4, NONE));
        for (int far : FAR) {
            Check.none(x, "sire " + far, () -> x.dog(0, far, NONE));
        }
        Check.due("the next one", x.dog(0, 2, NONE), 3);
    }

    private static void dams() {
        Check.sentence("a dam: a DOG ahead of it, or not known (NONE); NONE: a number is not as told");
        DogTrials x = new DogTrials();
        Check.none(x, "of the first DOG, 0", () -> x.dog(0, NONE, 0));
        Check.due("not known", x.dog(0, NONE, NONE), 0);
        Check.due("the first one", x.dog(0, NONE, 0), 1);
        Check.due("the last one", x.dog(0, NONE, 1), 2);
        Check.none(x, "itself", () -> x.dog(0, NONE, 3));
        Check.none(x, "one behind it", () -> x.dog(0, NONE, 4));
        for (int far : FAR) {
            Check.none(x, "dam " + far, () -> x.dog(0, NONE, far));
        }
        Check.due("the next one", x.dog(0, NONE, 2), 3);
    }

    private static void oneParentTwice() {
        Check.sentence("sire and dam may be one");
        DogTrials x = Check.ground(0, 0, 1);
        Check.due("dog(0, 0, 0)", x.dog(0, 0, 0), 1);
        Check.due("INBRED", x.inbred(1), WHOLE / 2);
        Check.due("KIN of it and its parent", x.kin(1, 0), WHOLE / 2);
        Check.due("KIN of it and itself", x.kin(1, 1), WHOLE / 2 + WHOLE / 4);
    }

    private static void refusedDogs() {
        Check.sentence("NONE: a number is not as told: no papers are left of it");
        DogTrials x = Check.ground(0, 0, 2);
        Check.none(x, "a sire that is there, a dam that isn't", () -> x.dog(0, 0, 2));
        Check.none(x, "a HANDLER that isn't", () -> x.dog(12, 0, 1));
        Check.noSuchElement("no DOG 2", () -> x.inbred(2));
        Check.due("the next one", x.dog(0, NONE, NONE), 2);
        Check.due("a stranger", x.kin(2, 0), 0);
        Check.due("not INBRED", x.inbred(2), 0);
        Check.due("itself", x.kin(2, 2), WHOLE / 2);
    }

    private static void unlikeKin() {
        Check.sentence("KIN of unlike ones: half of KIN of i's sire and j, and half of that of i's dam and j");
        DogTrials x = Check.ground(0, 0, 2);
        x.dog(0, 0, 1);
        x.dog(0, 0, 1);
        Check.due("strangers", x.kin(0, 1), 0);
        Check.due("sire and child", x.kin(2, 0), WHOLE / 4);
        Check.due("dam and child", x.kin(2, 1), WHOLE / 4);
        Check.due("of like parents", x.kin(3, 2), WHOLE / 4);
        Check.due("the other way round", x.kin(2, 3), WHOLE / 4);
    }

    private static void greaterNumber() {
        Check.sentence("the one with the greater number being i, the other one j");
        DogTrials x = Check.ground(0, 0, 1);
        x.dog(0, NONE, NONE);
        x.dog(0, 1, NONE);
        x.dog(0, 0, 2);
        Check.due("child and grandmother's line", x.kin(3, 1), WHOLE / 8);
        Check.due("asked from the lesser one", x.kin(1, 3), WHOLE / 8);
    }

    private static void unknownGivesNothing() {
        Check.sentence("one that isn't known gives 0");
        DogTrials x = Check.ground(0, 0, 1);
        x.dog(0, 0, NONE);
        x.dog(0, NONE, 0);
        x.dog(0, NONE, NONE);
        Check.due("a sire alone", x.kin(1, 0), WHOLE / 4);
        Check.due("a dam alone", x.kin(2, 0), WHOLE / 4);
        Check.due("a sire and a dam that are one DOG, not known otherwise", x.kin(2, 1), WHOLE / 8);
        Check.due("neither", x.kin(3, 0), 0);
    }

    private static void itself() {
        Check.sentence("of a DOG and itself: half, and half of KIN of its sire and its dam (0, if one isn't known)");
        DogTrials x = Check.ground(0, 0, 2);
        x.dog(0, 0, NONE);
        x.dog(0, NONE, 0);
        x.dog(0, 0, 1);
        x.dog(0, 0, 2);
        Check.due("neither is known", x.kin(0, 0), WHOLE / 2);
        Check.due("no dam", x.kin(2, 2), WHOLE / 2);
        Check.due("no sire", x.kin(3, 3), WHOLE / 2);
        Check.due("both, strangers", x.kin(4, 4), WHOLE / 2);
        Check.due("both, KIN", x.kin(5, 5), WHOLE / 2 + WHOLE / 8);
    }

    private static void partsOfTheWhole() {
        Check.sentence("in parts of 2^40, cut down");
        DogTrials x = Check.ground(0, 0, 1);
        DogTrials y = Check.ground(0, 0, 1);
        for (int i = 1; i < 24; i++) {
            x.dog(0, i - 1, NONE);
            y.dog(0, i - 1, i - 1);
        }
        Check.due("the least KIN that 24 DOGS can have", x.kin(23, 0), 1L << 16);
        Check.due("the greatest KIN that 24 DOGS can have", y.kin(23, 23), WHOLE - (1L << 16));
        Check.due("the greatest INBRED", y.inbred(23), WHOLE - (1L << 17));
    }

    private static void noSuchDog() {
        Check.sentence("kin: NoSuchElementException: no such DOG (as everywhere)");
        DogTrials x = Check.ground(0, 0, 3);
        Check.due("the last one", x.kin(2, 2), WHOLE / 2);
        for (int dog : new int[] {NONE, 3, 24, Integer.MIN_VALUE, Integer.MAX_VALUE}) {
            Check.noSuchElement(x, "kin(" + dog + ", 0)", () -> x.kin(dog, 0));
            Check.noSuchElement(x, "kin(0, " + dog + ")", () -> x.kin(0, dog));
            Check.noSuchElement(x, "kin of it and itself, " + dog, () -> x.kin(dog, dog));
        }
    }

    private static void inbred() {
        Check.sentence("INBRED is a DOG by KIN of its sire and its dam; 0, if one parent isn't known; no such DOG");
        DogTrials x = Check.ground(0, 0, 1);
        x.dog(0, 0, 0);
        x.dog(0, 1, NONE);
        x.dog(0, NONE, 1);
        x.dog(0, 1, 1);
        x.dog(0, 0, 1);
        Check.due("neither parent", x.inbred(0), 0);
        Check.due("no dam", x.inbred(2), 0);
        Check.due("no sire", x.inbred(3), 0);
        Check.due("one parent twice", x.inbred(4), WHOLE / 2 + WHOLE / 4);
        Check.due("a parent and its child", x.inbred(5), WHOLE / 2);
        for (int dog : new int[] {NONE, 6, 24, Integer.MIN_VALUE, Integer.MAX_VALUE}) {
            Check.noSuchElement(x, "inbred(" + dog + ")", () -> x.inbred(dog));
        }
    }
}
