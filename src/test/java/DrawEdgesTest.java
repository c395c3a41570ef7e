/** Boundary cases of promises 19 (list), 20 (enters), 21 (draw), 22 (drawn), 23 (packets). */
final class DrawEdgesTest {
    private static final int NONE = DogTrials.NONE;
    private static final int[] UNLIKE = {0, 1, 2, 3, 4, 5, 6, 7};

    public static void main(String[] args) {
        list();
        mostDogs();
        noneTwice();
        entersNoDog();
        emptyList();
        oneDog();
        seeds();
        asTold();
        apartAsTold();
        apartOne();
        fewerThan();
        firstAndLast();
        firstInTheRow();
        firstThatEndsWell();
        noOrder();
        noneKeepsWhatWasKept();
        listStays();
        drawnThereIsNone();
        draws();
        packetNumbers();
        packetBits();
        packetUses();
        restIsNine();
        greatestRest();
        fewestAndFirst();
        Check.end();
    }

    /** DOGS of these HANDLERS, all of them in the list as they stand. */
    private static DogTrials listed(int... handlers) {
        DogTrials x = new DogTrials();
        for (int i = 0; i < handlers.length; i++) {
            x.dog(handlers[i], NONE, NONE);
            Check.due("enters", x.enters(i), i + 1);
        }
        return x;
    }

    /** THE DRAW is these DOGS; without any: there is no order. */
    private static void drawn(DogTrials x, long seed, int apart, int... due) {
        String what = "draw(" + seed + ", " + apart + ")";
        Check.due(what, x.draw(seed, apart), due.length == 0 ? NONE : due[0]);
        if (due.length > 0) {
            Check.due(what + ", how many", x.drawn(NONE), due.length);
            for (int i = 0; i < due.length; i++) {
                Check.due(what + ", the " + i + "th", x.drawn(i), due[i]);
            }
        }
    }

    private static void list() {
        Check.sentence("list: DOGS for THE DRAW: the list is empty");
        DogTrials x = Check.ground(0, 0, 9);
        x.list();
        Check.due("of an empty one", x.count(9), 0);
        for (int i = 0; i < 8; i++) {
            x.enters(i);
        }
        x.list();
        Check.due("of a full one", x.count(9), 0);
        Check.due("draw", x.draw(0, 1), NONE);
        Check.due("one that was in it", x.enters(7), 1);
        Check.due("one that wasn't", x.enters(8), 2);
        Check.due("DOGS in the list", x.count(9), 2);
    }

    private static void mostDogs() {
        Check.sentence("enters: One DOG more: how many there are. NONE: there are 8");
        DogTrials x = Check.ground(0, 0, 10);
        for (int i = 0; i < 8; i++) {
            Check.due("enters", x.enters(9 - i), i + 1);
            Check.due("DOGS in the list", x.count(9), i + 1);
        }
        Check.none(x, "the 9th", () -> x.enters(0));
        Check.none(x, "the 9th again", () -> x.enters(1));
        Check.none(x, "the first of them", () -> x.enters(9));
        Check.none(x, "the last of them", () -> x.enters(2));
        Check.due("draw", x.draw(0, 1), 9 - 3);
        Check.due("8 are drawn", x.drawn(NONE), 8);
    }

    private static void noneTwice() {
        Check.sentence("(as told, none twice); enters: NONE: it is in it");
        DogTrials x = Check.ground(0, 0, 3);
        Check.due("DOG 1", x.enters(1), 1);
        Check.none(x, "the first one", () -> x.enters(1));
        Check.due("DOG 0", x.enters(0), 2);
        Check.due("DOG 2", x.enters(2), 3);
        for (int dog = 0; dog < 3; dog++) {
            int d = dog;
            Check.none(x, "DOG " + dog, () -> x.enters(d));
        }
        x.list();
        Check.due("in a new list", x.enters(1), 1);
    }

    private static void entersNoDog() {
        Check.sentence("enters: NoSuchElementException: no such DOG (as everywhere)");
        DogTrials x = Check.ground(0, 0, 9);
        for (int dog : new int[] {-1, 9, 24, Integer.MIN_VALUE, Integer.MAX_VALUE}) {
            Check.noSuchElement(x, "DOG " + dog, () -> x.enters(dog));
        }
        Check.due("the last one", x.enters(8), 1);
        for (int i = 0; i < 7; i++) {
            x.enters(i);
        }
        Check.noSuchElement(x, "no such DOG, with 8 in it", () -> x.enters(9));
    }

    private static void emptyList() {
        Check.sentence("draw: NONE (what was kept stays): the list is empty");
        DogTrials x = Check.ground(0, 0, 2);
        for (int apart = 1; apart <= 8; apart++) {
            Check.due("draw(5, " + apart + ")", x.draw(5, apart), NONE);
        }
        Check.due("nothing is kept", x.drawn(NONE), 0);
        x.enters(1);
        x.enters(0);
        Check.due("a draw", x.draw(5, 1), 0);
        x.list();
        Check.none(x, "an empty list again", () -> x.draw(5, 1));
        Check.due("the first that was kept", x.drawn(0), 0);
        Check.due("the last that was kept", x.drawn(1), 1);
    }

    private static void oneDog() {
        Check.sentence("THE DRAW of 1 to 8 DOGS: of 1");
        for (int apart = 1; apart <= 8; apart++) {
            drawn(listed(0), 5, apart, 0);
        }
        DogTrials x = Check.ground(0, 0, 24);
        x.enters(23);
        drawn(x, Long.MIN_VALUE, 8, 23);
    }

    private static void seeds() {
        Check.sentence("SEED becomes SEED times 6364136223846793005 and 1442695040888963407 more (longs that wrap)");
        drawn(listed(UNLIKE), 0L, 8, 3, 0, 2, 4, 5, 6, 1, 7);
        drawn(listed(UNLIKE), 1L, 8, 7, 4, 3, 2, 5, 0, 1, 6);
        drawn(listed(UNLIKE), -1L, 8, 6, 5, 4, 7, 2, 1, 3, 0);
        drawn(listed(UNLIKE), Long.MIN_VALUE, 8, 6, 4, 5, 1, 0, 3, 2, 7);
        drawn(listed(UNLIKE), Long.MAX_VALUE, 8, 5, 6, 4, 7, 1, 3, 2, 0);
        drawn(listed(0, 1), 0L, 2, 0, 1);
        drawn(listed(0, 1), 1L, 2, 1, 0);
        drawn(listed(0, 1, 2), 0L, 3, 1, 0, 2);
        drawn(listed(0, 1, 2), Long.MIN_VALUE, 3, 1, 2, 0);
        drawn(listed(0, 1, 2), Long.MAX_VALUE, 3, 2, 1, 0);
    }

    private static void asTold() {
        Check.sentence("they are a row as told");
        DogTrials x = Check.ground(0, 0, 12);
        int[] told = {11, 3, 9, 0, 7, 5, 1, 10};
        for (int dog : told) {
            x.enters(dog);
        }
        drawn(x, 0L, 1, 0, 11, 9, 7, 5, 1, 3, 10);
    }

    private static void apartAsTold() {
        Check.sentence("apart g (1 to 8); draw: IllegalArgumentException: apart is not as told");
        DogTrials x = listed(0, 1);
        Check.due("a draw", x.draw(1, 1), 1);
        for (int apart : new int[] {0, 9, -1, 16, Integer.MIN_VALUE, Integer.MAX_VALUE}) {
            Check.illegalArgument(x, "apart " + apart, () -> x.draw(0, apart));
        }
        Check.due("what was kept", x.drawn(0), 1);
        for (int apart = 1; apart <= 8; apart++) {
            Check.due("apart " + apart, x.draw(0, apart), 0);
        }
        DogTrials y = new DogTrials();
        Check.illegalArgument(y, "apart 0 of an empty list", () -> y.draw(0, 0));
        Check.illegalArgument(y, "apart 9 of an empty list", () -> y.draw(0, 9));
    }

    private static void apartOne() {
        Check.sentence("in which no two DOGS of one HANDLER are fewer than g places apart: by 1 the row itself");
        drawn(listed(5, 5, 5, 5, 5, 5, 5, 5), 5L, 1, 5, 1, 2, 3, 7, 6, 4, 0);
        drawn(listed(5, 5, 5, 5, 5, 5, 5, 5), 5L, 2);
        drawn(listed(5, 5), 5L, 1, 1, 0);
        drawn(listed(5, 5), 5L, 2);
        drawn(listed(0, 11), 5L, 2, 1, 0);
    }

    private static void fewerThan() {
        Check.sentence("no two DOGS of one HANDLER are fewer than g places apart");
        for (int dogs = 2; dogs <= 8; dogs++) {
            int[] handlers = new int[dogs];
            for (int i = 2; i < dogs; i++) {
                handlers[i] = i;
            }
            for (int apart = 1; apart <= 8; apart++) {
                DogTrials x = listed(handlers);
                int first = x.draw(9, apart);
                Check.holds(dogs + " DOGS, apart " + apart, (first == NONE) == (apart >= dogs));
                int places = 0;
                for (int i = 0; first != NONE && i < dogs; i++) {
                    places = x.drawn(i) < 2 ? i - places : places;
                }
                Check.holds("so far apart", first == NONE || places >= apart);
            }
        }
    }

    private static void firstAndLast() {
        Check.sentence("apart 7 of 8 DOGS: the first and the last place alone; apart 8: none");
        int[] handlers = {4, 4, 0, 1, 2, 3, 5, 6};
        drawn(listed(handlers), 5L, 7, 1, 5, 2, 3, 7, 6, 4, 0);
        drawn(listed(handlers), 5L, 8);
        drawn(listed(handlers), 0L, 7, 0, 3, 2, 4, 5, 6, 7, 1);
        drawn(listed(0, 1, 0), 5L, 2, 0, 1, 2);
        drawn(listed(0, 1, 0), 5L, 3);
    }

    private static void firstInTheRow() {
        Check.sentence("it is the first by places in that row");
        drawn(listed(0, 0, 0, 1, 1, 2, 2, 3), 5L, 3, 5, 1, 3, 7, 2, 6, 4, 0);
        drawn(listed(0, 0, 0, 1, 1, 2, 2, 3), 5L, 2, 5, 1, 3, 2, 7, 6, 4, 0);
        drawn(listed(0, 0, 0, 0, 1, 1, 2, 2), 5L, 2, 5, 1, 7, 2, 6, 3, 4, 0);
        drawn(listed(0, 0, 0, 0, 1, 1, 1, 1), 5L, 2, 5, 1, 7, 2, 6, 3, 4, 0);
        drawn(listed(0, 1, 2, 3, 0, 1, 2, 3), 7L, 4, 7, 0, 2, 1, 3, 4, 6, 5);
    }

    /** The row is 0 2 1 by SEED 11: DOG 0 first leads nowhere, so the next one in the row is tried, whoever its HANDLER is. */
    private static void firstThatEndsWell() {
        Check.sentence("Of all orders .. the first by places in that row: where the first DOG of the row can't be first");
        drawn(listed(1, 0, 0), 11L, 1, 0, 2, 1);
        drawn(listed(1, 0, 0), 11L, 2, 2, 0, 1);
        drawn(listed(0, 1, 1), 11L, 2, 2, 0, 1);
        drawn(listed(11, 10, 10), 11L, 2, 2, 0, 1);
        drawn(listed(10, 11, 11), 11L, 2, 2, 0, 1);
    }

    private static void noOrder() {
        Check.sentence("NONE, if there is none");
        drawn(listed(0, 0, 0, 0, 0, 1, 1, 1), 5L, 2);
        drawn(listed(0, 1, 2, 3, 0, 1, 2, 3), 7L, 5);
        drawn(listed(0, 0, 0, 1, 1, 1, 2, 2), 7L, 4);
        drawn(listed(0, 0, 1, 1, 2, 2, 3, 3), 7L, 8);
        drawn(listed(0, 0, 0), 7L, 8);
    }

    private static void noneKeepsWhatWasKept() {
        Check.sentence("draw: the first DOG; it is kept. NONE (what was kept stays): there is no such order");
        DogTrials x = listed(0, 0, 1);
        Check.none(x, "nothing was kept", () -> x.draw(5, 3));
        Check.due("nothing is kept", x.drawn(NONE), 0);
        drawn(x, 5L, 2, 0, 2, 1);
        Check.none(x, "three were kept", () -> x.draw(6, 3));
        Check.due("the first", x.drawn(0), 0);
        Check.due("the second", x.drawn(1), 2);
        Check.due("the third", x.drawn(2), 1);
    }

    private static void listStays() {
        Check.sentence("THE DRAW of the list, which stays");
        DogTrials x = listed(0, 1, 2);
        drawn(x, 5L, 1, 0, 2, 1);
        drawn(x, 5L, 1, 0, 2, 1);
        Check.due("DOGS in the list", x.count(9), 3);
        Check.due("its last one", x.enters(2), NONE);
        x.dog(3, NONE, NONE);
        Check.due("one more", x.enters(3), 4);
        Check.due("what is kept has it not yet", x.drawn(NONE), 3);
        x.list();
        Check.due("what is kept stays without a list", x.drawn(NONE), 3);
        x.enters(3);
        drawn(x, 5L, 1, 3);
        Check.noSuchElement(x, "the second of the draw ahead", () -> x.drawn(1));
    }

    private static void drawnThereIsNone() {
        Check.sentence("drawn: i NONE: how many. NoSuchElementException: there is none");
        DogTrials x = listed(UNLIKE);
        Check.noSuchElement(x, "drawn(0) ahead of a draw", () -> x.drawn(0));
        Check.due("how many ahead of a draw", x.drawn(NONE), 0);
        x.draw(0, 1);
        Check.due("how many", x.drawn(NONE), 8);
        Check.due("the first", x.drawn(0), 3);
        Check.due("the last", x.drawn(7), 7);
        for (int i : new int[] {-2, 8, 9, Integer.MIN_VALUE, Integer.MAX_VALUE}) {
            Check.noSuchElement(x, "drawn(" + i + ")", () -> x.drawn(i));
        }
    }

    private static void draws() {
        Check.sentence("draw: it is kept: the latest one");
        DogTrials x = listed(UNLIKE);
        drawn(x, 0L, 1, 3, 0, 2, 4, 5, 6, 1, 7);
        drawn(x, 1L, 1, 7, 4, 3, 2, 5, 0, 1, 6);
        x.list();
        x.enters(6);
        x.enters(2);
        drawn(x, 1L, 1, 2, 6);
        drawn(x, 0L, 1, 6, 2);
    }

    private static void packetNumbers() {
        Check.sentence("PACKETS for so many RUNS (1 to 8), of m (1 to 4), u times (1 to 8); IllegalArgumentException");
        DogTrials x = new DogTrials();
        for (int bad : new int[] {0, -1, Integer.MIN_VALUE, Integer.MAX_VALUE, 9}) {
            Check.illegalArgument(x, "packets(" + bad + ", 1, 1)", () -> x.packets(bad, 1, 1));
            Check.illegalArgument(x, "packets(1, " + bad + ", 1)", () -> x.packets(1, bad, 1));
            Check.illegalArgument(x, "packets(1, 1, " + bad + ")", () -> x.packets(1, 1, bad));
        }
        Check.illegalArgument(x, "packets(1, 5, 1)", () -> x.packets(1, 5, 1));
        Check.illegalArgument(x, "packets(9, 4, 8)", () -> x.packets(9, 4, 8));
        Check.due("the least of all", x.packets(1, 1, 1), 0);
        Check.due("the greatest of all", x.packets(8, 4, 8), 0xE4E4);
        Check.due("the most RUNS of one", x.packets(8, 1, 8), 0);
        Check.due("the most of m", x.packets(1, 4, 1), 0);
        Check.due("the most times", x.packets(1, 1, 8), 0);
    }

    private static void packetBits() {
        Check.sentence("packets: THE BEST row, 2 bits for each RUN, the first lowest");
        DogTrials x = new DogTrials();
        Check.due("0 1", x.packets(2, 2, 1), 4);
        Check.due("0 1 2", x.packets(3, 3, 1), 36);
        Check.due("0 1 2 3", x.packets(4, 4, 1), 0xE4);
        Check.due("0 1 0 1 0 1 0 1", x.packets(8, 2, 4), 0x4444);
        Check.due("0 1 2 0 1 2 0 1", x.packets(8, 3, 3), 0x4924);
        Check.due("0 1 2 3 0 1 2 3", x.packets(8, 4, 2), 0xE4E4);
    }

    private static void packetUses() {
        Check.sentence("each used at most u times; NONE: there is none");
        DogTrials x = new DogTrials();
        for (int m = 1; m <= 4; m++) {
            for (int u = 1; m * u <= 7; u++) {
                int most = m * u;
                Check.holds("packets(" + most + ", " + m + ", " + u + ")", x.packets(most, m, u) != NONE);
                Check.due("packets(" + (most + 1) + ", " + m + ", " + u + ")", x.packets(most + 1, m, u), NONE);
            }
        }
        Check.due("8 of 2, 4 times", x.packets(8, 2, 4), 0x4444);
        Check.due("8 of 2, 3 times", x.packets(8, 2, 3), NONE);
        Check.due("8 of 1, 7 times", x.packets(8, 1, 7), NONE);
        Check.due("8 of 3, 2 times", x.packets(8, 3, 2), NONE);
        Check.due("8 of 4, once", x.packets(8, 4, 1), NONE);
    }

    private static void restIsNine() {
        Check.sentence("REST (9, if none is used twice)");
        DogTrials x = new DogTrials();
        Check.due("1 of 4", x.packets(1, 4, 8), 0);
        Check.due("2 of 4", x.packets(2, 4, 8), 4);
        Check.due("3 of 4", x.packets(3, 4, 8), 36);
        Check.due("4 of 4", x.packets(4, 4, 8), 0xE4);
        Check.due("2 of 2", x.packets(2, 2, 8), 4);
        Check.due("2 of 1", x.packets(2, 1, 8), 0);
    }

    private static void greatestRest() {
        Check.sentence("THE BEST row: greatest REST");
        DogTrials x = new DogTrials();
        Check.due("3 of 2: 2 places", x.packets(3, 2, 8), 4);
        Check.due("5 of 4: 4 places", x.packets(5, 4, 8), 0xE4);
        Check.due("4 of 3: 3 places", x.packets(4, 3, 8), 36);
        Check.due("8 of 1: 1 place", x.packets(8, 1, 8), 0);
    }

    private static void fewestAndFirst() {
        Check.sentence("of like ones fewest PACKETS used, then the first as a row");
        DogTrials x = new DogTrials();
        Check.due("1 of 2", x.packets(1, 2, 1), 0);
        Check.due("2 of 3: 0 1, not 1 0 nor 0 2", x.packets(2, 3, 1), 4);
        Check.due("5 of 3: 0 1 2 0 1", x.packets(5, 3, 2), 0x124);
        Check.due("6 of 4: 0 1 2 3 0 1", x.packets(6, 4, 2), 0x4E4);
    }
}
