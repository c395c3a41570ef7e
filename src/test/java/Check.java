import java.util.NoSuchElementException;

/** What the tests share: answers compared, exceptions awaited, texts fed. */
final class Check {
    static final int NONE = DogTrials.NONE;

    interface Call {
        long answer();
    }

    private static int wrong = 0;
    private static int asked = 0;

    private Check() {
    }

    static void due(String what, long got, long want) {
        asked++;
        if (got != want) {
            wrong++;
            System.out.println(what + " answered " + got + ", due is " + want);
        }
    }

    static void noSuchElement(String what, Call call) {
        due(what + " (0 nothing, 1 NoSuchElementException, 2 IllegalArgumentException, 3 another)", thrown(call), 1);
    }

    static void illegalArgument(String what, Call call) {
        due(what + " (0 nothing, 1 NoSuchElementException, 2 IllegalArgumentException, 3 another)", thrown(call), 2);
    }

    private static int thrown(Call call) {
        try {
            call.answer();
            return 0;
        } catch (NoSuchElementException e) {
            return e.getClass() == NoSuchElementException.class ? 1 : 3;
        } catch (IllegalArgumentException e) {
            return e.getClass() == IllegalArgumentException.class ? 2 : 3;
        } catch (RuntimeException e) {
            return 3;
        }
    }

    /** Every test's last line. */
    static void end() {
        if (asked == 0 || wrong != 0) {
            System.out.println(wrong + " of " + asked + " answers are not as due");
            System.exit(1);
        }
    }

    /** The text, and blanks up to the next twenty bytes; the tape must be empty. */
    static void feed(DogTrials x, String text) {
        for (int from = 0; from < text.length(); from += 20) {
            int[] numbers = new int[5];
            for (int i = 0; i < 20; i++) {
                int b = from + i < text.length() ? text.charAt(from + i) : ' ';
                numbers[i / 4] = numbers[i / 4] << 8 | b;
            }
            x.feed(numbers[0], numbers[1], numbers[2], numbers[3], numbers[4]);
        }
    }

    static int rules(DogTrials x, String text) {
        feed(x, text);
        return x.rules(text.length());
    }

    static int card(DogTrials x, int run, String text) {
        feed(x, text);
        return x.card(run, text.length());
    }

    /** So many JUDGES, PACKETS and DOGS (their HANDLERS 0, 1, 2 .. in turn, no papers). */
    static DogTrials ground(int judges, int packets, int dogs) {
        DogTrials x = new DogTrials();
        for (int i = 0; i < judges; i++) {
            x.comes(0);
        }
        for (int i = 0; i < packets; i++) {
            x.comes(1);
        }
        for (int i = 0; i < dogs; i++) {
            x.dog(i % 12, NONE, NONE);
        }
        return x;
    }
}
