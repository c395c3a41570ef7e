import java.util.NoSuchElementException;

/** What the tests share: answers compared, exceptions awaited, texts fed. */
final class Check {
    static final int NONE = DogTrials.NONE;

    interface Call {
        long answer();
    }

    private static final String THROWN = " (0 nothing, 1 NoSuchElementException, 2 IllegalArgumentException, 3 another)";

    private static int wrong = 0;
    private static int asked = 0;
    private static String sentence = "";

    private Check() {
    }

    /** The document's words that the answers from here on are held against. */
    static void sentence(String words) {
        sentence = "[" + words + "] ";
    }

    static void due(String what, long got, long want) {
        asked++;
        if (got != want) {
            wrong++;
            System.out.println(sentence + what + " answered " + got + ", due is " + want);
        }
    }

    static void holds(String what, boolean got) {
        due(what, got ? 1 : 0, 1);
    }

    static void noSuchElement(String what, Call call) {
        due(what + THROWN, thrown(call), 1);
    }

    static void illegalArgument(String what, Call call) {
        due(what + THROWN, thrown(call), 2);
    }

    /** A refused call: it answers NONE, and nothing that can be counted changes. */
    static void none(DogTrials x, String what, Call call) {
        String before = counted(x);
        due(what, call.answer(), NONE);
        same(what, before, counted(x));
    }

    /** A refused call: NoSuchElementException, and nothing that can be counted changes. */
    static void noSuchElement(DogTrials x, String what, Call call) {
        String before = counted(x);
        noSuchElement(what, call);
        same(what, before, counted(x));
    }

    /** A refused call: IllegalArgumentException, and nothing that can be counted changes. */
    static void illegalArgument(DogTrials x, String what, Call call) {
        String before = counted(x);
        illegalArgument(what, call);
        same(what, before, counted(x));
    }

    /** Thirteen calls, and one for each DOG of THE DRAW. */
    private static String counted(DogTrials x) {
        StringBuilder all = new StringBuilder();
        for (int what = 0; what <= 10; what++) {
            all.append(x.count(what)).append(' ');
        }
        all.append(x.fault());
        int drawn = x.drawn(NONE);
        for (int i = 0; i < drawn; i++) {
            all.append(' ').append(x.drawn(i));
        }
        return all.toString();
    }

    private static void same(String what, String before, String behind) {
        due(what + " leaves " + before + " as it was, not " + behind, before.equals(behind) ? 1 : 0, 1);
    }

    private static int thrown(Call call) {
        try {
            call.answer();
            return 0;
        } catch (NoSuchElementException e) {
            return e.getClass() == NoSuchElementException.class ? 1 : 3;
        } catch (IllegalArgumentException e) {
            return e.getClass() == IllegalArgumentException.class ? 2 : 3;
        } catch (RuntimeException e) {
            return 3;
        }
    }

    /** Every test's last line. */
    static void end() {
        if (asked == 0 || wrong != 0) {
            System.out.println(wrong + " of " + asked + " answers are not as due");
            System.exit(1);
        }
    }

    /** The text, and blanks up to the next twenty bytes; the tape must be empty. */
    static void feed(DogTrials x, String text) {
        for (int from = 0; from < text.length(); from += 20) {
            int[] numbers = new int[5];
            for (int i = 0; i < 20; i++) {
                int b = from + i < text.length() ? text.charAt(from + i) : ' ';
                numbers[i / 4] = numbers[i / 4] << 8 | b;
            }
            x.feed(numbers[0], numbers[1], numbers[2], numbers[3], numbers[4]);
        }
    }

    static int rules(DogTrials x, String text) {
        feed(x, text);
        return x.rules(text.length());
    }

    static int card(DogTrials x, int run, String text) {
        feed(x, text);
        return x.card(run, text.length());
    }

    /** A TRIAL by such RULES on DAY 0 under JUDGE 0, and so many RUNS of it at HOUR 9, each of its own DOG, no WIND. */
    static DogTrials trial(String rules, int runs) {
        DogTrials x = ground(1, 1, 24);
        due("rules: " + rules, rules(x, rules), 0);
        due("trial", x.trial(0, 0, 0), 0);
        for (int i = 0; i < runs; i++) {
            due("run", x.run(0, i, 0, 9, 0), i);
        }
        return x;
    }

    /** A RUN of a TRIAL whose RULES begin with "part a 90;fault f off n;", with this TOTAL, at most 90. */
    static int scored(DogTrials x, int trial, int dog, int hour, int total) {
        int run = x.run(trial, dog, 0, hour, 0);
        due("card", card(x, run, "a f " + (90 - total) + ";"), 0);
        return run;
    }

    static boolean refuses(DogTrials x, int protest, int how, int points) {
        return !x.decide(protest, how, points);
    }

    /** So many JUDGES, PACKETS and DOGS (their HANDLERS 0, 1, 2 .. in turn, no papers). */
    static DogTrials ground(int judges, int packets, int dogs) {
        DogTrials x = new DogTrials();
        for (int i = 0; i < judges; i++) {
            x.comes(0);
        }
        for (int i = 0; i < packets; i++) {
            x.comes(1);
        }
        for (int i = 0; i < dogs; i++) {
            x.dog(i % 12, NONE, NONE);
        }
        return x;
    }
}
