import java.math.BigInteger;

/** SCALES told another way than DogTrials does: elimination with fractions of any size, one JUDGE of the GROUP held at 0. */
final class Fractions {
    private final BigInteger over;
    private final BigInteger under;

    private Fractions(BigInteger over, BigInteger under) {
        BigInteger common = over.gcd(under);
        BigInteger sign = BigInteger.valueOf(under.signum());
        this.over = over.divide(common).multiply(sign);
        this.under = under.divide(common).multiply(sign);
    }

    private static Fractions of(long n) {
        return new Fractions(BigInteger.valueOf(n), BigInteger.ONE);
    }

    private Fractions plus(Fractions f) {
        return new Fractions(over.multiply(f.under).add(f.over.multiply(under)), under.multiply(f.under));
    }

    private Fractions times(Fractions f) {
        return new Fractions(over.multiply(f.over), under.multiply(f.under));
    }

    private Fractions less(Fractions f) {
        return plus(f.times(of(-1)));
    }

    private Fractions by(Fractions f) {
        return new Fractions(over.multiply(f.under), under.multiply(f.over));
    }

    /** In thousandths, cut down; totals[dog][judge] is -1 where there is none. */
    static long scale(int[][] totals, int judge) {
        boolean[] in = group(totals, judge);
        int judges = in.length;
        int held = -1;
        Fractions[][] rows = new Fractions[judges][judges + 1];
        for (int a = 0; a < judges; a++) {
            held = in[a] && held < 0 ? a : held;
            for (int b = 0; b <= judges; b++) {
                rows[a][b] = of(0);
            }
            for (int b = 0; b < judges; b++) {
                for (int[] dog : totals) {
                    if (a != b && dog[a] >= 0 && dog[b] >= 0) {
                        rows[a][a] = rows[a][a].plus(of(1));
                        rows[a][b] = rows[a][b].less(of(1));
                        rows[a][judges] = rows[a][judges].plus(of(dog[a] - dog[b]));
                    }
                }
            }
        }
        Fractions sum = of(0);
        Fractions[] s = solve(rows, in, held);
        int members = 0;
        for (int a = 0; a < judges; a++) {
            sum = in[a] ? sum.plus(s[a]) : sum;
            members += in[a] ? 1 : 0;
        }
        Fractions scale = s[judge].less(sum.by(of(members))).times(of(1000));
        BigInteger[] parts = scale.over.divideAndRemainder(scale.under);
        return parts[0].longValueExact() - (parts[1].signum() < 0 ? 1 : 0);
    }

    static boolean[] group(int[][] totals, int judge) {
        boolean[] in = new boolean[totals[0].length];
        in[judge] = true;
        for (int round = 0; round < in.length; round++) {
            for (int[] dog : totals) {
                boolean joined = false;
                for (int a = 0; a < in.length; a++) {
                    joined |= in[a] && dog[a] >= 0;
                }
                for (int a = 0; a < in.length; a++) {
                    in[a] |= joined && dog[a] >= 0;
                }
            }
        }
        return in;
    }

    private static Fractions[] solve(Fractions[][] rows, boolean[] in, int held) {
        int n = in.length;
        Fractions[] s = new Fractions[n];
        for (int c = 0; c < n; c++) {
            s[c] = of(0);
            if (in[c] && c != held) {
                for (int r = 0; r < n; r++) {
                    if (r != c && in[r] && r != held) {
                        Fractions times = rows[r][c].by(rows[c][c]);
                        for (int i = 0; i <= n; i++) {
                            rows[r][i] = rows[r][i].less(rows[c][i].times(times));
                        }
                    }
                }
            }
        }
        for (int c = 0; c < n; c++) {
            if (in[c] && c != held) {
                s[c] = rows[c][n].by(rows[c][c]);
            }
        }
        return s;
    }
}
