/** How DogTrials is used: README.md shows this file and what it prints. */
public final class Example {
    /** A text comes over the tape, twenty bytes a call, blanks behind it: how many bytes the tape has. */
    static int feed(DogTrials x, String text) {
        int bytes = 0;
        for (int from = 0; from < text.length(); from += 20) {
            int[] numbers = new int[5];
            for (int i = 0; i < 20; i++) {
                int letter = from + i < text.length() ? text.charAt(from + i) : ' ';
                numbers[i / 4] = numbers[i / 4] << 8 | letter;
            }
            bytes = x.feed(numbers[0], numbers[1], numbers[2], numbers[3], numbers[4]);
        }
        return bytes;
    }

    public static void main(String[] args) {
        DogTrials x = new DogTrials();
        int judge = x.comes(0);
        int packet = x.comes(1);
        int meg = x.dog(0, DogTrials.NONE, DogTrials.NONE);
        int roy = x.dog(1, DogTrials.NONE, DogTrials.NONE);
        int pup = x.dog(1, roy, meg);
        System.out.println("KIN of pup and meg in parts of 2^40: " + x.kin(pup, meg));

        int rules = x.rules(feed(x, "part lift 10; part pen 20; fault stop off 2 * n; fault turn off nth;"
            + " out total < 5; tie pen, time; best 3; limit 300;"));
        int trial = x.trial(rules, 0, judge);
        int first = x.run(trial, meg, packet, 9, 0);
        int second = x.run(trial, roy, packet, 10, 2);
        System.out.println("RULES, TRIAL, RUNS: " + rules + ", " + trial + ", " + first + " and " + second);

        System.out.println("a CARD: " + x.card(first, feed(x, "lift stop 2 turn; pen turn turn; time 250;")));
        System.out.println("with a FAULT: " + x.card(second, feed(x, "lift; pan stop 4;")) + " at " + x.fault());
        System.out.println("told anew: " + x.card(second, feed(x, "lift; pen stop 4; time 200;")));
        System.out.println("TOTALS on DAY 0: " + x.told(first, 0, 0) + ", " + x.told(second, 0, 0));
        System.out.println("PLACES on DAY 0: " + x.told(first, 4, 0) + ", " + x.told(second, 4, 0));

        System.out.println("TODAY: " + x.days(1));
        int protest = x.protest(second);
        System.out.println("3 points more for roy: " + x.decide(protest, 3, 3));
        System.out.println("PLACES on DAY 0: " + x.told(first, 4, 0) + ", " + x.told(second, 4, 0));
        System.out.println("PLACES on DAY 1: " + x.told(first, 4, 1) + ", " + x.told(second, 4, 1));
        System.out.println("LADDER on DAY 1: DOG " + x.ladder(0, 999, 0, 1) + " has " + x.sum(roy, 0, 999, 1));

        x.list();
        x.enters(meg);
        x.enters(roy);
        x.enters(pup);
        System.out.println("DRAW: " + x.draw(1L, 2) + ", " + x.drawn(1) + ", " + x.drawn(2));
        try {
            x.told(first, 0, 2);
        } catch (IllegalArgumentException e) {
            System.out.println("DAY 2 isn't known yet");
        }
    }
}
