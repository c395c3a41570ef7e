import java.util.Random;

/** Promises 19 (list), 20 (enters), 21 (draw), 22 (drawn). */
final class DrawTest {
    public static void main(String[] args) {
        lists();
        draws();
        kept();
        againstAllOrders();
        Check.end();
    }

    private static void lists() {
        DogTrials x = Check.ground(0, 0, 9);
        for (int i = 0; i < 8; i++) {
            Check.due("enters", x.enters(8 - i), i + 1);
            Check.due("it is in it", x.enters(8 - i), -1);
        }
        Check.due("there are 8", x.enters(0), -1);
        Check.noSuchElement("enters(9)", () -> x.enters(9));
        Check.noSuchElement("enters(-1)", () -> x.enters(-1));
        Check.due("DOGS in the list", x.count(9), 8);
        x.list();
        Check.due("empty", x.count(9), 0);
        Check.due("again", x.enters(8), 1);
    }

    private static void draws() {
        DogTrials x = Check.ground(0, 0, 3);
        for (int apart : new int[] {0, -1, 9, Integer.MAX_VALUE, Integer.MIN_VALUE}) {
            Check.illegalArgument("apart " + apart, () -> x.draw(1, apart));
        }
        Check.due("an empty list", x.draw(1, 8), -1);
        x.enters(2);
        Check.due("one DOG", x.draw(1, 8), 2);
        Check.due("how many", x.drawn(-1), 1);
        Check.due("the list stays", x.count(9), 1);
        Check.due("by the SEED alone", first(0, 8, 1), byHand(0, 8));
        Check.due("by the SEED alone", first(Long.MIN_VALUE, 8, 1), byHand(Long.MIN_VALUE, 8));
    }

    private static long first(long seed, int dogs, int apart) {
        DogTrials x = Check.ground(0, 0, dogs);
        for (int i = 0; i < dogs; i++) {
            x.enters(i);
        }
        x.draw(seed, apart);
        return rowOf(x);
    }

    private static long rowOf(DogTrials x) {
        long row = x.drawn(-1);
        for (int i = 0; i < x.drawn(-1); i++) {
            row = row * 100 + x.drawn(i);
        }
        return row;
    }

    private static long byHand(long seed, int dogs) {
        int[] row = shuffled(seed, dogs);
        long code = dogs;
        for (int dog : row) {
            code = code * 100 + dog;
        }
        return code;
    }

    private static int[] shuffled(long seed, int dogs) {
        int[] row = new int[dogs];
        for (int i = 0; i < dogs; i++) {
            row[i] = i;
        }
        for (int i = dogs - 1; i >= 1; i--) {
            seed = seed * 6364136223846793005L + 1442695040888963407L;
            int j = (int) ((seed >>> 33) % (i + 1));
            int moved = row[i];
            row[i] = row[j];
            row[j] = moved;
        }
        return row;
    }

    private static void kept() {
        DogTrials x = new DogTrials();
        x.dog(3, -1, -1);
        x.dog(3, -1, -1);
        x.dog(4, -1, -1);
        Check.noSuchElement("nothing is kept", () -> x.drawn(0));
        x.enters(0);
        x.enters(2);
        x.enters(1);
        Check.due("two of one HANDLER, 3 apart", x.draw(5, 3), -1);
        Check.due("nothing is kept", x.drawn(-1), 0);
        int first = x.draw(5, 2);
        Check.due("the DOG between", x.drawn(1), 2);
        Check.due("the first", x.drawn(0), first);
        Check.due("all of them", x.drawn(0) + x.drawn(2), 1);
        Check.due("NONE", x.draw(6, 3), -1);
        Check.due("what was kept stays", x.drawn(0), first);
        x.list();
        Check.due("what was kept stays without a list", x.drawn(-1), 3);
        Check.due("an empty list", x.draw(6, 1), -1);
        Check.due("what was kept stays", x.drawn(2), 1 - first);
        Check.noSuchElement("drawn(3)", () -> x.drawn(3));
        Check.noSuchElement("drawn(-2)", () -> x.drawn(-2));
        x.enters(1);
        Check.due("a new one", x.draw(6, 1), 1);
        Check.due("how many", x.drawn(-1), 1);
        Check.noSuchElement("drawn(1)", () -> x.drawn(1));
    }

    private static void againstAllOrders() {
        Random random = new Random(11);
        for (int round = 0; round < 400; round++) {
            DogTrials x = new DogTrials();
            int dogs = 1 + random.nextInt(8);
            int hands = 1 + random.nextInt(8);
            int[] handlers = new int[dogs];
            for (int i = 0; i < dogs; i++) {
                handlers[i] = random.nextInt(hands);
                x.dog(handlers[i], -1, -1);
                x.enters(i);
            }
            long seed = random.nextLong();
            int apart = 1 + random.nextInt(round % 3 == 0 ? 8 : 4);
            int[] row = shuffled(seed, dogs);
            int[] order = new int[dogs];
            boolean found = fill(order, 0, row, handlers, apart, new boolean[dogs]);
            Check.due("draw " + round, x.draw(seed, apart), found ? row[order[0]] : -1);
            Check.due("how many " + round, x.drawn(-1), found ? dogs : 0);
            for (int i = 0; found && i < dogs; i++) {
                Check.due("drawn " + round, x.drawn(i), row[order[i]]);
            }
        }
    }

    /** All orders, by places in the row; each is looked at when it is whole. */
    private static boolean fill(int[] order, int place, int[] row, int[] handlers, int apart, boolean[] used) {
        if (place == order.length) {
            for (int p = 0; p < place; p++) {
                for (int q = p + 1; q < place; q++) {
                    if (q - p < apart && handlers[row[order[p]]] == handlers[row[order[q]]]) {
                        return false;
                    }
                }
            }
            return true;
        }
        for (int i = 0; i < row.length; i++) {
            if (!used[i]) {
                used[i] = true;
                order[place] = i;
                if (fill(order, place + 1, row, handlers, apart, used)) {
                    return true;
                }
                used[i] = false;
            }
        }
        return false;
    }
}
