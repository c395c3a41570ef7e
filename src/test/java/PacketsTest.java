/** Promise 23 (packets): each answer there is, against all rows. */
final class PacketsTest {
    public static void main(String[] args) {
        DogTrials x = new DogTrials();
        for (int runs = 1; runs <= 8; runs++) {
            for (int m = 1; m <= 4; m++) {
                for (int u = 1; u <= 8; u++) {
                    Check.due("packets(" + runs + ", " + m + ", " + u + ")", x.packets(runs, m, u), best(runs, m, u));
                }
            }
        }
        int[][] wrong = {{0, 1, 1}, {9, 4, 8}, {1, 0, 1}, {1, 5, 1}, {1, 1, 0}, {1, 1, 9}, {-1, -1, -1},
            {Integer.MIN_VALUE, 1, 1}, {1, Integer.MAX_VALUE, 1}, {1, 1, Integer.MAX_VALUE}};
        for (int[] w : wrong) {
            Check.illegalArgument("packets(" + w[0] + ", " + w[1] + ", " + w[2] + ")", () -> x.packets(w[0], w[1], w[2]));
        }
        Check.end();
    }

    /** Rows are gone through as they stand in order, so that a later one must be better to be taken. */
    private static int best(int runs, int m, int u) {
        int best = -1;
        int bestRest = -1;
        int bestUsed = 0;
        int[] row = new int[runs];
        while (true) {
            int rest = 9;
            int used = 0;
            boolean fits = true;
            for (int p = 0; p < m; p++) {
                int last = -1;
                int uses = 0;
                for (int i = 0; i < runs; i++) {
                    if (row[i] == p) {
                        rest = last >= 0 ? Math.min(rest, i - last) : rest;
                        last = i;
                        uses++;
                    }
                }
                used += uses > 0 ? 1 : 0;
                fits &= uses <= u;
            }
            if (fits && (rest > bestRest || rest == bestRest && used < bestUsed)) {
                bestRest = rest;
                bestUsed = used;
                best = 0;
                for (int i = 0; i < runs; i++) {
                    best |= row[i] << 2 * i;
                }
            }
            int i = runs - 1;
            while (i >= 0 && row[i] == m - 1) {
                row[i] = 0;
                i--;
            }
            if (i < 0) {
                return best;
            }
            row[i]++;
        }
    }
}
