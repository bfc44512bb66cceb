import java.math.BigInteger;

/** The document's terms, word by word, over fractions of big numbers: slow, plain, and nothing of the program's. */
final class Oracle {
    static final long NAR = -1;

    private Oracle() {
    }

    /** A fraction with a divisor above 0. */
    static final class Fraction implements Comparable<Fraction> {
        static final Fraction ZERO = of(0, 1);
        static final Fraction ONE = of(1, 1);

        final BigInteger top;
        final BigInteger bottom;

        Fraction(BigInteger top, BigInteger bottom) {
            BigInteger g = top.gcd(bottom);
            if (bottom.signum() < 0) {
                g = g.negate();
            }
            this.top = top.divide(g);
            this.bottom = bottom.divide(g);
        }

        static Fraction of(long top, long bottom) {
            return new Fraction(BigInteger.valueOf(top), BigInteger.valueOf(bottom));
        }

        static Fraction scaled(BigInteger top, int base, int exponent) {
            BigInteger scale = BigInteger.valueOf(base).pow(Math.abs(exponent));
            return exponent >= 0 ? new Fraction(top.multiply(scale), BigInteger.ONE) : new Fraction(top, scale);
        }

        Fraction plus(Fraction o) {
            return new Fraction(top.multiply(o.bottom).add(o.top.multiply(bottom)), bottom.multiply(o.bottom));
        }

        Fraction minus(Fraction o) {
            return plus(o.negated());
        }

        Fraction times(Fraction o) {
            return new Fraction(top.multiply(o.top), bottom.multiply(o.bottom));
        }

        Fraction over(Fraction o) {
            return new Fraction(top.multiply(o.bottom), bottom.multiply(o.top));
        }

        Fraction negated() {
            return new Fraction(top.negate(), bottom);
        }

        Fraction size() {
            return new Fraction(top.abs(), bottom);
        }

        Fraction pow(int k) {
            return k >= 0 ? new Fraction(top.pow(k), bottom.pow(k)) : ONE.over(pow(-k));
        }

        int signum() {
            return top.signum();
        }

        BigInteger floor() {
            BigInteger[] both = top.divideAndRemainder(bottom);
            return both[1].signum() < 0 ? both[0].subtract(BigInteger.ONE) : both[0];
        }

        BigInteger ceiling() {
            return negated().floor().negate();
        }

        BigInteger nearest() {
            BigInteger low = floor();
            int how = minus(new Fraction(low, BigInteger.ONE)).compareTo(of(1, 2));
            return how > 0 || (how == 0 && low.testBit(0)) ? low.add(BigInteger.ONE) : low;
        }

        @Override
        public int compareTo(Fraction o) {
            return top.multiply(o.bottom).compareTo(o.top.multiply(bottom));
        }
    }

    /** A real number above 0, known by how it stands to fractions above 0. */
    interface Size {
        int against(Fraction x);
    }

    /** Term 1, of a pattern that isn't NaR. */
    static Fraction value(long pattern, int n) {
        if (pattern == 0) {
            return Fraction.ZERO;
        }
        if (pattern > 1L << (n - 1)) {
            return value((1L << n) - pattern, n).negated();
        }
        int at = n - 2;
        long lead = pattern >> at & 1;
        int k = 0;
        while (at >= 0 && (pattern >> at & 1) == lead) {
            k++;
            at--;
        }
        at--;
        int e = 0;
        for (int i = 0; i < 2; i++) {
            e = 2 * e + (at >= 0 ? (int) (pattern >> at & 1) : 0);
            at--;
        }
        int fractionBits = Math.max(0, at + 1);
        long f = pattern & ((1L << fractionBits) - 1);
        int r = lead == 1 ? k - 1 : -k;
        return Fraction.scaled(BigInteger.valueOf((1L << fractionBits) + f), 2, 4 * r + e - fractionBits);
    }

    static boolean isNaR(long pattern, int n) {
        return pattern == 1L << (n - 1);
    }

    /** Term 2, of a number above 0. */
    static long roundSize(Size v, int n) {
        long most = (1L << (n - 1)) - 1;
        if (v.against(value(1, n)) <= 0) {
            return 1;
        }
        if (v.against(value(most, n)) >= 0) {
            return most;
        }
        long low = 1;
        long high = most;
        while (high - low > 1) {
            long middle = (low + high) / 2;
            if (v.against(value(middle, n)) >= 0) {
                low = middle;
            } else {
                high = middle;
            }
        }
        int how = v.against(value(2 * low + 1, n + 1));
        if (how == 0) {
            return low % 2 == 0 ? low : low + 1;
        }
        return how < 0 ? low : low + 1;
    }

    static long round(boolean minus, Size v, int n) {
        long u = roundSize(v, n);
        return minus ? (1L << n) - u : u;
    }

    /** Term 2. */
    static long round(Fraction v, int n) {
        if (v.signum() == 0) {
            return 0;
        }
        Fraction size = v.size();
        return round(v.signum() < 0, size::compareTo, n);
    }

    static long nar(int n) {
        return 1L << (n - 1);
    }

    static long root(Fraction v, int k, int n) {
        if (v.signum() == 0) {
            return 0;
        }
        if (v.signum() < 0 && k % 2 == 0) {
            return nar(n);
        }
        Fraction size = v.size();
        return round(v.signum() < 0, x -> size.compareTo(x.pow(k)), n);
    }

    static long under(Fraction v, int n) {
        return v.signum() <= 0 ? nar(n) : round(false, x -> Fraction.ONE.compareTo(x.pow(2).times(v)), n);
    }

    static long far(Fraction v, Fraction w, int n) {
        return root(v.pow(2).plus(w.pow(2)), 2, n);
    }

    static long power(Fraction v, int k, int n) {
        return v.signum() == 0 && k < 0 ? nar(n) : round(v.pow(k), n);
    }

    static String exact(long pattern, int n) {
        if (isNaR(pattern, n)) {
            return "NaR";
        }
        Fraction v = value(pattern, n);
        return new java.math.BigDecimal(v.top).divide(new java.math.BigDecimal(v.bottom)).toPlainString();
    }

    /** SHORT, by trying for each count of digits every power of ten that could matter. */
    static String brief(long pattern, int n) {
        if (isNaR(pattern, n)) {
            return "NaR";
        }
        if (pattern == 0) {
            return "0";
        }
        boolean minus = pattern > 1L << (n - 1);
        long u = minus ? (1L << n) - pattern : pattern;
        Fraction v = value(u, n);
        for (int c = 1; c < 30; c++) {
            BigInteger best = null;
            int bestPower = 0;
            Fraction bestNumber = null;
            BigInteger least = BigInteger.TEN.pow(c - 1);
            BigInteger most = BigInteger.TEN.pow(c).subtract(BigInteger.ONE);
            int middle = v.top.bitLength() * 3 / 10 - v.bottom.bitLength() * 3 / 10 - c + 1;
            for (int t = middle - 6; t <= middle + 6; t++) {
                BigInteger low = v.over(Fraction.scaled(BigInteger.ONE, 10, t)).floor();
                for (int i = 0; i < 2; i++) {
                    BigInteger d = low.add(BigInteger.valueOf(i)).max(least).min(most);
                    Fraction number = Fraction.scaled(d, 10, t);
                    if (d.mod(BigInteger.TEN).signum() == 0 || round(number, n) != u) {
                        continue;
                    }
                    int how = best == null ? -1 : number.minus(v).size().compareTo(bestNumber.minus(v).size());
                    if (how < 0 || (how == 0 && number.compareTo(bestNumber) < 0)) {
                        best = d;
                        bestPower = t;
                        bestNumber = number;
                    }
                }
            }
            if (best != null) {
                String digits = best.toString();
                String dotted = c == 1 ? digits : digits.charAt(0) + "." + digits.substring(1);
                return (minus ? "-" : "") + dotted + "e" + (bestPower + c - 1);
            }
        }
        throw new IllegalStateException("no short text");
    }
}
