import java.util.ArrayList;
import java.util.List;
import java.util.NoSuchElementException;
import java.util.Random;

/** Runs of up to 512 calls, most of them fitting, some not, on DogTrials and on the Model: all answers must be alike. */
final class ModelTest {
    private static final int ROUNDS = 300;
    private static final int MOST_CALLS = 512;
    /** A text of 600 bytes, the call that takes it, and fault(). */
    private static final int MOST_AT_ONCE = 32;
    private static final String[] PARTS = {"outrun", "lift", "fetch", "drive", "pen", "shed", "single", "abcdefgh"};
    private static final String[] FAULTS = {"cross", "stop", "grip", "pen", "miss", "slow", "turn", "a", "bb", "late"};
    private static final String[] PIECES = {"part", "fault", "off", "out", "tie", "best", "limit", "time", "retired",
        "and", "or", "not", "n", "nth", "hour", "wind", "left", "total", ";", ",", "(", ")", "+", "-", "*", "/", "<",
        "=", "0", "5", "21", "100", "10000", "99999", "100000", "outrun", "cross", "zz", "abcdefghi", "!", "A", "\t"};

    private final Random random;
    private final DogTrials x = new DogTrials();
    private final Model m = new Model();
    private final StringBuilder story = new StringBuilder();
    private int partCount = 3;
    private int calls = 0;

    private ModelTest(long seed) {
        random = new Random(seed);
    }

    public static void main(String[] args) {
        int rounds = args.length > 0 ? Integer.parseInt(args[0]) : ROUNDS;
        for (int seed = 0; seed < rounds; seed++) {
            new ModelTest(seed).play(seed);
        }
        Check.end();
    }

    private interface Call {
        long answer();
    }

    private static String outcome(Call call) {
        try {
            return Long.toString(call.answer());
        } catch (NoSuchElementException e) {
            return "NoSuchElementException";
        } catch (IllegalArgumentException e) {
            return "IllegalArgumentException";
        }
    }

    private boolean alike(String what, Call real, Call due) {
        calls++;
        String got = outcome(real);
        String want = outcome(due);
        story.append(what).append(" -> ").append(got).append('\n');
        if (!got.equals(want)) {
            System.out.println(story);
            Check.due(what + ": " + got + ", the model says " + want + ";", 0, 1);
            return false;
        }
        Check.due(what, 0, 0);
        return true;
    }

    private void play(int seed) {
        int judges = 1 + random.nextInt(6);
        boolean goesOn = true;
        for (int i = 0; i < judges; i++) {
            goesOn &= alike("comes(0)", () -> x.comes(0), () -> m.comes(0));
        }
        goesOn &= alike("comes(1)", () -> x.comes(1), () -> m.comes(1));
        for (int i = 0; i < 4; i++) {
            goesOn &= newDog();
        }
        goesOn &= tell(rulesText(), -1);
        while (calls <= MOST_CALLS - MOST_AT_ONCE - 11 && goesOn) {
            goesOn = once(seed);
        }
        for (int what = 0; what < 11; what++) {
            int w = what;
            alike("count(" + w + ")", () -> x.count(w), () -> m.count(w));
        }
    }

    private int below(int n) {
        return random.nextInt(40) == 0 ? random.nextInt(60) - 20 : random.nextInt(Math.max(1, n));
    }

    private int day() {
        return random.nextInt(30) == 0 ? random.nextInt(3) - 1 + m.count(0) : random.nextInt(m.count(0) + 1);
    }

    private boolean newDog() {
        int h = below(12);
        int s = random.nextInt(m.count(3) + 1) - 1;
        int d = below(m.count(3) + 1) - 1;
        return alike("dog(" + h + ", " + s + ", " + d + ")", () -> x.dog(h, s, d), () -> m.dog(h, s, d));
    }

    private boolean once(int seed) {
        int kind = random.nextInt(100);
        if (kind < 3) {
            return newDog();
        }
        if (kind < 6) {
            return tell(mutated(rulesText()), -1);
        }
        if (kind < 9) {
            int r = below(m.count(4));
            int d = random.nextInt(12);
            int j = below(m.count(1));
            return alike("trial(" + r + ", " + d + ", " + j + ")", () -> x.trial(r, d, j), () -> m.trial(r, d, j));
        }
        if (kind < 21) {
            int t = below(m.count(5));
            int d = below(m.count(3));
            int h = below(4);
            int w = below(10);
            return alike("run(" + t + ", " + d + ", 0, " + h + ", " + w + ")",
                () -> x.run(t, d, 0, h, w), () -> m.run(t, d, 0, h, w));
        }
        if (kind < 45) {
            return tell(random.nextInt(5) == 0 ? mutated(cardText()) : cardText(), below(m.count(6)));
        }
        if (kind < 47) {
            int n = random.nextInt(20) == 0 ? -1 : random.nextInt(3);
            return alike("days(" + n + ")", () -> x.days(n), () -> m.days(n));
        }
        if (kind < 50) {
            int r = below(m.count(6));
            return alike("protest(" + r + ")", () -> x.protest(r), () -> m.protest(r));
        }
        if (kind < 53) {
            int p = below(m.count(8));
            int how = random.nextInt(3) > 0 ? 3 : below(4);
            int points = how == 3 ? random.nextInt(105) - 52 : below(1);
            return alike("decide(" + p + ", " + how + ", " + points + ")",
                () -> x.decide(p, how, points) ? 1 : 0, () -> m.decide(p, how, points) ? 1 : 0);
        }
        return kind < 78 ? askOfRuns() : askOfAll(seed);
    }

    private boolean askOfRuns() {
        int r = below(m.count(6));
        int k = day();
        if (random.nextInt(3) == 0) {
            int i = below(3);
            return alike("took(" + r + ", " + i + ", " + k + ")", () -> x.took(r, i, k), () -> m.took(r, i, k));
        }
        int what = random.nextInt(3) == 0 ? 10 + below(partCount) : random.nextInt(3) == 0 ? 4 : below(6);
        return alike("told(" + r + ", " + what + ", " + k + ")", () -> x.told(r, what, k), () -> m.told(r, what, k));
    }

    private boolean askOfAll(int seed) {
        int k = day();
        int a = random.nextInt(6);
        int b = random.nextInt(12);
        switch (random.nextInt(6)) {
            case 0:
                int place = below(5) - 1;
                return alike("ladder(" + a + ", " + b + ", " + place + ", " + k + ")",
                    () -> x.ladder(a, b, place, k), () -> m.ladder(a, b, place, k));
            case 1:
                int dog = below(m.count(3));
                return alike("sum(" + dog + ", " + a + ", " + b + ", " + k + ")",
                    () -> x.sum(dog, a, b, k), () -> m.sum(dog, a, b, k));
            case 2:
            case 3:
                int j = below(m.count(1));
                int what = random.nextInt(2) == 0 ? 0 : below(3);
                return alike("scale(" + j + ", " + what + ", " + k + ")",
                    () -> x.scale(j, what, k), () -> m.scale(j, what, k));
            case 4:
                int t = below(m.count(5));
                int h = below(4);
                return alike("luck(" + t + ", " + h + ", " + k + ")", () -> x.luck(t, h, k), () -> m.luck(t, h, k));
            default:
                int what2 = below(11);
                return alike("count(" + what2 + ")", () -> x.count(what2), () -> m.count(what2));
        }
    }

    /** Run -1: as RULES. The tape keeps what it has if a call throws, so both may go on with rests. */
    private boolean tell(String text, int run) {
        boolean goesOn = true;
        for (int from = 0; from < text.length() && goesOn; from += 20) {
            int[] n = new int[5];
            for (int i = 0; i < 20; i++) {
                n[i / 4] = n[i / 4] << 8 | (from + i < text.length() ? text.charAt(from + i) : ' ');
            }
            goesOn = alike("feed", () -> x.feed(n[0], n[1], n[2], n[3], n[4]),
                () -> m.feed(n[0], n[1], n[2], n[3], n[4]));
        }
        int n = random.nextInt(60) == 0 ? random.nextInt(700) - 50 : text.length();
        story.append(text).append('\n');
        if (run == -1) {
            goesOn &= alike("rules(" + n + ")", () -> x.rules(n), () -> m.rules(n));
        } else {
            goesOn &= alike("card(" + run + ", " + n + ")", () -> x.card(run, n), () -> m.card(run, n));
        }
        return goesOn && alike("fault()", () -> x.fault(), () -> m.fault());
    }

    private String rulesText() {
        StringBuilder text = new StringBuilder();
        partCount = 1 + random.nextInt(8);
        for (int i = 0; i < partCount; i++) {
            text.append("part ").append(PARTS[i]).append(' ').append(1 + random.nextInt(40)).append(";\n");
        }
        int faults = 3 + random.nextInt(3);
        for (int i = 0; i < faults; i++) {
            text.append("fault ").append(FAULTS[i]).append(" off ").append(expression(2)).append(';');
        }
        if (random.nextInt(3) == 0) {
            text.append("out total < ").append(random.nextInt(20)).append(';');
        }
        if (random.nextInt(3) == 0) {
            text.append("out ").append(expression(3)).append("< wind and hour = 2;");
        }
        if (random.nextInt(2) == 0) {
            text.append("tie ").append(PARTS[random.nextInt(partCount)]).append(", time;");
        }
        if (random.nextInt(2) == 0) {
            text.append("best ").append(1 + random.nextInt(4)).append(";limit ").append(60).append(';');
        }
        return text.length() > 600 ? text.substring(0, 600) : text.toString();
    }

    private String expression(int deep) {
        String[] values = {"n", "nth", "hour", "wind", "left", "total", "time"};
        String[] signs = {"+", "-", "*", "/", "<", "=", " and ", " or "};
        if (deep == 0 || random.nextInt(4) == 0) {
            return random.nextInt(3) == 0 ? Integer.toString(random.nextInt(12)) : values[random.nextInt(7)];
        }
        if (random.nextInt(6) == 0) {
            return "(not " + expression(deep - 1) + ")";
        }
        String joined = expression(deep - 1) + signs[random.nextInt(8)] + expression(deep - 1);
        return random.nextInt(2) == 0 ? "(" + joined + ")" : joined.replaceAll("[<=]", "+");
    }

    private String cardText() {
        StringBuilder text = new StringBuilder();
        for (int i = 0; i < partCount; i++) {
            if (random.nextInt(4) > 0) {
                text.append(PARTS[i]);
                int faults = random.nextInt(3) == 0 ? random.nextInt(8) : random.nextInt(2);
                for (int f = 0; f < faults; f++) {
                    text.append(' ').append(FAULTS[random.nextInt(3)]);
                    text.append(random.nextInt(2) == 0 ? "" : " " + random.nextInt(9));
                }
                text.append(';');
            }
        }
        text.append(random.nextInt(2) == 0 ? "time " + (50 + random.nextInt(12)) + ";" : "");
        text.append(random.nextInt(15) == 0 ? "retired;" : "");
        return text.toString();
    }

    private String mutated(String text) {
        List<String> pieces = new ArrayList<>();
        for (String piece : text.split("(?<=[^a-z0-9])|(?=[^a-z0-9])")) {
            pieces.add(piece);
        }
        int changes = random.nextInt(3);
        for (int i = 0; i < changes && !pieces.isEmpty(); i++) {
            int at = random.nextInt(pieces.size());
            switch (random.nextInt(4)) {
                case 0:
                    pieces.remove(at);
                    break;
                case 1:
                    pieces.set(at, " " + PIECES[random.nextInt(PIECES.length)] + " ");
                    break;
                case 2:
                    pieces.add(at, " " + PIECES[random.nextInt(PIECES.length)] + " ");
                    break;
                default:
                    pieces.add(at, pieces.get(random.nextInt(pieces.size())));
                    break;
            }
        }
        String joined = String.join("", pieces);
        return joined.length() > 600 ? joined.substring(0, 600) : joined;
    }
}
