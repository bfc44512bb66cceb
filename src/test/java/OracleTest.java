import java.math.BigDecimal;
import java.math.BigInteger;
import java.util.Random;

/** Promises 5 to 26 against the document's terms, over all small patterns and over many that are drawn. */
public final class OracleTest {
    private static int wrong = 0;
    private static final Random DRAW = new Random(20261116);

    public static void main(String[] args) {
        smallPairs();
        for (int i = 0; i < 6000; i++) {
            drawnActs();
        }
        for (int i = 0; i < 20000; i++) {
            drawnRatio();
        }
        for (int i = 0; i < 300; i++) {
            drawnQuire();
        }
        allShortTexts();
        for (int i = 0; i < 3000; i++) {
            int n = drawnWidth();
            texts(drawnPattern(n), n);
        }
        for (int i = 0; i < 20000; i++) {
            drawnDecimal();
        }
        for (int i = 0; i < 4000; i++) {
            boundTexts();
        }
        System.out.println(wrong == 0 ? "as the document's terms say" : wrong + " answers are wrong");
        System.exit(wrong == 0 ? 0 : 1);
    }

    private static void due(String what, long got, long want) {
        if (got != want) {
            wrong++;
            if (wrong < 50) {
                System.out.println(what + " answered " + got + ", due is " + want);
            }
        }
    }

    private static void due(String what, String got, String want) {
        if (!got.equals(want)) {
            wrong++;
            if (wrong < 50) {
                System.out.println(what + " answered " + got + ", due is " + want);
            }
        }
    }

    private static int drawnWidth() {
        return DRAW.nextInt(3) == 0 ? 32 : 3 + DRAW.nextInt(30);
    }

    /** Often with long runs of equal bits, so that the edges of the range are met. */
    private static long drawnPattern(int n) {
        long bits = DRAW.nextLong() >>> 32;
        switch (DRAW.nextInt(5)) {
            case 0:
                bits = bits >> DRAW.nextInt(32);
                break;
            case 1:
                bits = ~(bits >> DRAW.nextInt(32));
                break;
            case 2:
                bits = bits & (-1L << DRAW.nextInt(32));
                break;
            default:
                break;
        }
        bits = DRAW.nextInt(40) == 0 ? 1L << (n - 1) : bits;
        return bits & ((1L << n) - 1);
    }

    private static void smallPairs() {
        for (int n = 3; n <= 6; n++) {
            for (long a = 0; a < 1L << n; a++) {
                for (long b = 0; b < 1L << n; b++) {
                    acts(a, n, b, n, a * 7 & ((1L << 5) - 1), 5);
                }
            }
        }
        for (long a = 0; a < 256; a++) {
            for (int target = 3; target <= 32; target++) {
                acts(a, 8, (a * 37 + 11) & 255, 8, a >> 1 & 7, target);
            }
        }
    }

    private static void drawnActs() {
        int n = drawnWidth();
        int m = drawnWidth();
        int t = drawnWidth();
        long a = drawnPattern(n);
        long b = DRAW.nextInt(8) == 0 && n == m ? a ^ 1 : drawnPattern(m);
        acts(a, n, b, m, drawnPattern(t), t);
    }

    private static PositHouse house(long a, int n, long b, int m, long c, int t) {
        PositHouse x = new PositHouse();
        x.set(0, n, (int) a);
        x.set(1, m, (int) b);
        x.set(2, t, (int) c);
        return x;
    }

    private static void acts(long a, int n, long b, int m, long c, int t) {
        c = c & ((1L << t) - 1);
        PositHouse x = house(a, n, b, m, c, t);
        String told = a + "/" + n + " " + b + "/" + m + " " + c + "/" + t;
        boolean narA = Oracle.isNaR(a, n);
        boolean narB = Oracle.isNaR(b, m);
        boolean narC = Oracle.isNaR(c, t);
        Oracle.Fraction v = narA ? Oracle.Fraction.ONE : Oracle.value(a, n);
        Oracle.Fraction w = narB ? Oracle.Fraction.ONE : Oracle.value(b, m);
        Oracle.Fraction z = narC ? Oracle.Fraction.ONE : Oracle.value(c, t);
        boolean nar = narA || narB;
        long none = Oracle.nar(t);

        due("pattern " + told, x.pattern(0), a);
        int order = narA ? (narB ? 0 : -1) : narB ? 1 : Integer.signum(v.compareTo(w));
        due("order " + told, x.order(0, 1), order);

        x.add(0, 1, 2);
        due("add " + told, x.pattern(2), nar ? none : Oracle.round(v.plus(w), t));
        x.less(0, 1, 2);
        due("less " + told, x.pattern(2), nar ? none : Oracle.round(v.minus(w), t));
        x.times(0, 1, 2);
        due("times " + told, x.pattern(2), nar ? none : Oracle.round(v.times(w), t));
        x.over(0, 1, 2);
        due("over " + told, x.pattern(2), nar || w.signum() == 0 ? none : Oracle.round(v.over(w), t));
        x.set(2, t, (int) c);
        x.fused(0, 1, 2);
        due("fused " + told, x.pattern(2), nar || narC ? none : Oracle.round(v.times(w).plus(z), t));
        x.far(0, 1, 2);
        due("far " + told, x.pattern(2), nar ? none : Oracle.far(v, w, t));
        x.under(0, 2);
        due("under " + told, x.pattern(2), narA ? none : Oracle.under(v, t));
        int k = 1 + DRAW.nextInt(8);
        x.root(0, k, 2);
        due("root " + k + " " + told, x.pattern(2), narA ? none : Oracle.root(v, k, t));
        int e = DRAW.nextInt(33) - 16;
        x.power(0, e, 2);
        due("power " + e + " " + told, x.pattern(2), narA ? none : Oracle.power(v, e, t));
        x.take(0, 3, t);
        due("take " + told, x.pattern(3), narA ? none : Oracle.round(v, t));
        due("width " + told, x.width(3), t);
        turns(x, a, n, narA, v);
        wholes(x, told, narA, v);
    }

    private static void turns(PositHouse x, long a, int n, boolean nar, Oracle.Fraction v) {
        long most = (1L << n) - 1;
        for (int how = 0; how < 8; how++) {
            x.set(4, n, (int) a);
            x.turn(4, how);
            due("turn " + how + " " + a + "/" + n, x.pattern(4), how == 6 ? (a == most ? 0 : a + 1)
                : how == 7 ? (a == 0 ? most : a - 1) : nar ? a : Oracle.round(turned(v, how), n));
        }
    }

    private static Oracle.Fraction turned(Oracle.Fraction v, int how) {
        switch (how) {
            case 0:
                return v.negated();
            case 1:
                return v.size();
            case 2:
                return Oracle.Fraction.of(v.signum(), 1);
            case 3:
                return new Oracle.Fraction(v.nearest(), BigInteger.ONE);
            case 4:
                return new Oracle.Fraction(v.floor(), BigInteger.ONE);
            default:
                return new Oracle.Fraction(v.ceiling(), BigInteger.ONE);
        }
    }

    private static void wholes(PositHouse x, String told, boolean nar, Oracle.Fraction v) {
        String got;
        try {
            got = Long.toString(x.whole(0));
        } catch (ArithmeticException e) {
            got = "none";
        }
        BigInteger nearest = v.nearest();
        due("whole " + told, got, nar || nearest.bitLength() > 63 ? "none" : nearest.toString());
    }

    private static long drawnLong() {
        switch (DRAW.nextInt(8)) {
            case 0:
                return Long.MIN_VALUE;
            case 1:
                return Long.MAX_VALUE;
            case 2:
                return DRAW.nextInt(9) - 4;
            default:
                return DRAW.nextLong() >> DRAW.nextInt(64);
        }
    }

    private static void drawnRatio() {
        long a = drawnLong();
        long b = drawnLong();
        int n = drawnWidth();
        PositHouse x = new PositHouse();
        x.set(5, n, 1);
        x.ratio(5, a, b);
        long want = b == 0 ? Oracle.nar(n) : Oracle.round(Oracle.Fraction.of(a, b), n);
        due("ratio " + a + " " + b + " " + n, x.pattern(5), want);
    }

    private static void drawnQuire() {
        PositHouse x = new PositHouse();
        Oracle.Fraction sum = Oracle.Fraction.ZERO;
        Oracle.Fraction[] values = new Oracle.Fraction[32];
        for (int i = 0; i < 32; i++) {
            int n = drawnWidth();
            long a = drawnPattern(n);
            a = Oracle.isNaR(a, n) ? 1 : a;
            x.set(i, n, (int) a);
            values[i] = Oracle.value(a, n);
        }
        for (int i = 0; i < 40; i++) {
            int p = DRAW.nextInt(32);
            int q = DRAW.nextInt(32);
            if (DRAW.nextBoolean()) {
                boolean minus = DRAW.nextBoolean();
                x.gather(3, p, q, minus);
                Oracle.Fraction product = values[p].times(values[q]);
                sum = minus ? sum.minus(product) : sum.plus(product);
            } else {
                int n = DRAW.nextInt(33 - Math.max(p, q));
                x.dot(3, p, q, n);
                for (int j = 0; j < n; j++) {
                    sum = sum.plus(values[p + j].times(values[q + j]));
                }
            }
        }
        BigInteger units = sum.times(Oracle.Fraction.scaled(BigInteger.ONE, 2, 240)).top;
        for (int i = 0; i < 16; i++) {
            due("image " + i, x.image(3, i), units.shiftRight(32 * i).intValue());
            due("image of another " + i, x.image(2, i), 0);
        }
        for (int n = 3; n <= 32; n++) {
            x.set(0, n, 0);
            x.settle(3, 0);
            due("settle " + n, x.pattern(0), Oracle.round(sum, n));
        }
    }

    private static String written(PositHouse x, int count) {
        StringBuilder text = new StringBuilder();
        for (int i = 0; i < count; i++) {
            text.append((char) x.letter(i));
        }
        due("letter behind the text", x.letter(count), -1);
        due("letter ahead of the text", x.letter(-1), -1);
        return text.toString();
    }

    private static int readText(PositHouse x, int r, String text) {
        for (int i = 0; i < text.length(); i++) {
            x.feed(text.charAt(i), 1);
        }
        return x.read(r);
    }

    private static void allShortTexts() {
        for (int n = 3; n <= 10; n++) {
            for (long a = 0; a < 1L << n; a++) {
                texts(a, n);
            }
        }
    }

    private static void texts(long a, int n) {
        PositHouse x = new PositHouse();
        x.set(7, n, (int) a);
        due("exact " + a + "/" + n, written(x, x.write(7, false)), Oracle.exact(a, n));
        String brief = written(x, x.write(7, true));
        due("short " + a + "/" + n, brief, Oracle.brief(a, n));
        x.set(8, n, 1);
        due("read " + brief, readText(x, 8, brief), 0);
        due("pattern of " + brief + " " + n, x.pattern(8), a);
    }

    private static void drawnDecimal() {
        StringBuilder text = new StringBuilder(DRAW.nextBoolean() ? "-" : "");
        int ahead = 1 + DRAW.nextInt(DRAW.nextBoolean() ? 3 : 30);
        for (int i = 0; i < ahead; i++) {
            text.append((char) ('0' + (DRAW.nextInt(4) == 0 ? 0 : DRAW.nextInt(10))));
        }
        if (DRAW.nextBoolean()) {
            text.append('.');
            int behind = 1 + DRAW.nextInt(DRAW.nextBoolean() ? 4 : 30);
            for (int i = 0; i < behind; i++) {
                text.append((char) ('0' + (DRAW.nextInt(3) == 0 ? 0 : DRAW.nextInt(10))));
            }
        }
        if (DRAW.nextBoolean()) {
            text.append('e').append(new String[] {"", "+", "-"}[DRAW.nextInt(3)]);
            text.append(DRAW.nextInt(DRAW.nextInt(5) == 0 ? 1000 : 45));
        }
        decimal(text.toString(), drawnWidth());
    }

    private static void decimal(String text, int n) {
        PositHouse x = new PositHouse();
        x.set(9, n, 5);
        due("read " + text, readText(x, 9, text), 0);
        BigDecimal number = new BigDecimal(text);
        Oracle.Fraction v = Oracle.Fraction.scaled(number.unscaledValue(), 10, -number.scale());
        due("pattern of " + text + " " + n, x.pattern(9), Oracle.round(v, n));
    }

    /** Decimals at a rounding's bound and a little off it, as far as sixty digits go. */
    private static void boundTexts() {
        int n = drawnWidth();
        long u = Math.max(1, drawnPattern(n) & ((1L << (n - 1)) - 1));
        Oracle.Fraction bound = Oracle.value(2 * u + 1, n + 1);
        BigDecimal exact = new BigDecimal(bound.top).divide(new BigDecimal(bound.bottom));
        BigInteger digits = exact.unscaledValue();
        if (digits.toString().length() > 59) {
            return;
        }
        for (int off = -1; off <= 1; off++) {
            BigInteger near = digits.multiply(BigInteger.TEN).add(BigInteger.valueOf(off));
            decimal(near + "e" + (-exact.scale() - 1), n);
        }
    }
}
