import java.math.BigInteger;
import java.util.Random;

/** Promises 3 (dog), 4 (kin), 5 (inbred). */
final class DogsTest {
    private static final long WHOLE = 1L << 40;

    public static void main(String[] args) {
        numbers();
        family();
        deepest();
        againstTheWords();
        Check.end();
    }

    private static void numbers() {
        DogTrials x = new DogTrials();
        Check.due("HANDLER -1", x.dog(-1, -1, -1), -1);
        Check.due("HANDLER 12", x.dog(12, -1, -1), -1);
        Check.due("a sire that isn't ahead", x.dog(0, 0, -1), -1);
        Check.due("a dam that isn't ahead", x.dog(0, -1, 0), -1);
        Check.due("a sire -2", x.dog(0, -2, -1), -1);
        Check.due("a dam -2", x.dog(0, -1, -2), -1);
        Check.due("a sire 2^31 - 1", x.dog(0, Integer.MAX_VALUE, -1), -1);
        Check.due("DOGS", x.count(3), 0);
        Check.due("dog", x.dog(11, -1, -1), 0);
        Check.due("sire and dam may be one", x.dog(0, 0, 0), 1);
        Check.due("itself", x.dog(0, 2, 0), -1);
        for (int i = 2; i < 24; i++) {
            Check.due("dog", x.dog(i % 12, i - 1, -1), i);
        }
        Check.due("the 25th", x.dog(0, -1, -1), -1);
        Check.due("DOGS", x.count(3), 24);
        Check.noSuchElement("kin(-1, 0)", () -> x.kin(-1, 0));
        Check.noSuchElement("kin(0, 24)", () -> x.kin(0, 24));
        Check.noSuchElement("kin(24, 0)", () -> x.kin(24, 0));
        Check.noSuchElement("kin(0, -1)", () -> x.kin(0, -1));
        Check.noSuchElement("inbred(24)", () -> x.inbred(24));
        Check.noSuchElement("inbred(-1)", () -> x.inbred(-1));
    }

    private static void family() {
        DogTrials x = new DogTrials();
        x.dog(0, -1, -1);
        x.dog(0, -1, -1);
        x.dog(0, 0, 1);
        x.dog(0, 0, 1);
        x.dog(0, 2, 3);
        x.dog(0, 4, -1);
        x.dog(0, 0, 0);
        Check.due("itself", x.kin(0, 0), WHOLE / 2);
        Check.due("strangers", x.kin(0, 1), 0);
        Check.due("sire and child", x.kin(0, 2), WHOLE / 4);
        Check.due("the other way round", x.kin(2, 0), WHOLE / 4);
        Check.due("full siblings", x.kin(2, 3), WHOLE / 4);
        Check.due("their child", x.inbred(4), WHOLE / 4);
        Check.due("that child itself", x.kin(4, 4), WHOLE / 2 + WHOLE / 8);
        Check.due("one parent known", x.kin(5, 4), WHOLE / 4 + WHOLE / 16);
        Check.due("one parent known, inbred", x.inbred(5), 0);
        Check.due("one parent known, itself", x.kin(5, 5), WHOLE / 2);
        Check.due("sire and dam are one", x.inbred(6), WHOLE / 2);
        Check.due("sire and dam are one, itself", x.kin(6, 6), WHOLE / 2 + WHOLE / 4);
        Check.due("sire and dam are one, kin", x.kin(6, 0), WHOLE / 2);
    }

    /** 24 generations of the one parent twice: 1 less 2 to the so many'th. */
    private static void deepest() {
        DogTrials x = new DogTrials();
        x.dog(0, -1, -1);
        for (int i = 1; i < 24; i++) {
            x.dog(0, i - 1, i - 1);
        }
        for (int i = 0; i < 24; i++) {
            Check.due("kin(" + i + ", " + i + ")", x.kin(i, i), WHOLE - (WHOLE >> (i + 1)));
            Check.due("kin(23, " + i + ")", x.kin(23, i), WHOLE - (WHOLE >> (i + 1)));
        }
        DogTrials y = new DogTrials();
        y.dog(0, -1, -1);
        for (int i = 1; i < 24; i++) {
            y.dog(0, i - 1, -1);
        }
        for (int i = 0; i < 24; i++) {
            Check.due("a line of sires", y.kin(0, i), WHOLE >> (i + 1));
        }
    }

    private static void againstTheWords() {
        Random random = new Random(7);
        for (int round = 0; round < 30; round++) {
            DogTrials x = new DogTrials();
            int[] sires = new int[24];
            int[] dams = new int[24];
            for (int i = 0; i < 24; i++) {
                sires[i] = random.nextInt(i + 1) - 1;
                dams[i] = random.nextInt(4) == 0 ? -1 : random.nextInt(i + 1) - 1;
                x.dog(random.nextInt(12), sires[i], dams[i]);
            }
            for (int i = 0; i < 40; i++) {
                int a = random.nextInt(24);
                int b = random.nextInt(24);
                Check.due("kin(" + a + ", " + b + ")", x.kin(a, b), parts(kin(sires, dams, a, b)));
                long inbred = sires[a] < 0 || dams[a] < 0 ? 0 : parts(kin(sires, dams, sires[a], dams[a]));
                Check.due("inbred(" + a + ")", x.inbred(a), inbred);
            }
        }
    }

    /** In parts of 2^60, by the document's words alone. */
    private static BigInteger kin(int[] sires, int[] dams, int a, int b) {
        if (a == -1 || b == -1) {
            return BigInteger.ZERO;
        }
        int i = Math.max(a, b);
        int j = Math.min(a, b);
        if (i == j) {
            return BigInteger.ONE.shiftLeft(59).add(kin(sires, dams, sires[i], dams[i]).shiftRight(1));
        }
        return kin(sires, dams, sires[i], j).shiftRight(1).add(kin(sires, dams, dams[i], j).shiftRight(1));
    }

    private static long parts(BigInteger kin) {
        return kin.shiftRight(20).longValueExact();
    }
}
