import java.io.IOException;
import java.math.BigDecimal;
import java.math.BigInteger;

/** The sentences of the terms, of EXACT and SHORT, of the paragraph on exceptions, and promise 1. */
public final class TermsBoundaryTest {
    private static final String SIXTY = "123456789012345678901234567890123456789012345678901234567890";

    public static void main(String[] args) throws IOException {
        Sentences.open();
        whatItIs();
        patterns();
        rounding();
        places();
        quires();
        decimals();
        decimalsWrong();
        exactTexts();
        shortTexts();
        exceptions();
        newObject();
        Sentences.close("T1", "T2", "T3", "T4", "T5", "TEXT", "THROWS", "P1");
    }

    // ---- what it is

    private static void whatItIs() {
        Sentences.test("WHAT", "An object is used for at most 512 calls after it has been made;", () -> {
            PositHouse x = new PositHouse();
            x.set(0, 32, Houses.ONE);
            for (int i = 0; i < 509; i++) {
                x.gather(3, 0, 0, false);
            }
            x.settle(3, 1);
            Sentences.due("the 512th call", x.whole(1), 509);
        });
        Sentences.test("WHAT", "An object is used for at most 512 calls after it has been made;", () -> {
            PositHouse x = new PositHouse();
            for (int i = 0; i < 170; i++) {
                Sentences.due("feed " + i, x.feed('0' + i % 10, 1), 1);
                Sentences.due("read " + i, x.read(i % 32), 0);
                Sentences.due("write " + i, x.write(i % 32, false), 1);
            }
            Sentences.due("the 511th call", x.letter(0), '9');
            Sentences.due("the 512th call", x.letter(1), -1);
        });
    }

    // ---- term 1

    private static BigDecimal powerOfTwo(int e) {
        BigDecimal size = new BigDecimal(BigInteger.TWO.pow(Math.abs(e)));
        return e >= 0 ? size : BigDecimal.ONE.divide(size);
    }

    private static void patterns() {
        Sentences.test("T1", "A PATTERN of WIDTH n is a number 0 .. 2^n - 1.", () -> {
            for (int n = 3; n <= 32; n++) {
                Sentences.due("the last pattern of width " + n, Houses.of(n, -1).pattern(0), (1L << n) - 1);
                Sentences.due("the first pattern of width " + n, Houses.of(n, 0).pattern(0), 0);
            }
        });
        Sentences.test("T1", "0 has the VALUE 0; 2^(n-1) is NaR, which is no number.", () -> {
            for (int n = 3; n <= 32; n++) {
                Sentences.due("0 of width " + n, Houses.exact(n, 0), "0");
                Sentences.due("NaR of width " + n, Houses.exact(n, 1L << (n - 1)), "NaR");
                PositHouse x = Houses.of(n, 1 << (n - 1), (1 << (n - 1)) - 1, (1 << (n - 1)) + 1);
                Sentences.due("whole of NaR", Houses.thrown(x, h -> h.whole(0)), Houses.ARITHMETIC.getName());
                Sentences.due("the pattern ahead of NaR is a number", x.order(1, 3), 1);
                Sentences.due("the pattern behind NaR is a number", x.order(2, 3), -1);
                Sentences.due("NaR is below it", x.order(0, 2), -1);
            }
        });
        Sentences.test("T1", "Of a pattern above that, the value is minus that of 2^n less it.", () -> {
            for (int n = 3; n <= 32; n++) {
                long most = (1L << (n - 1)) - 1;
                for (long u : new long[] {1, 2, most - 1, most, 1L << (n - 2), (1L << (n - 2)) - 1}) {
                    Sentences.due("minus " + u, Houses.exact(n, (1L << n) - u), "-" + Houses.exact(n, u));
                }
            }
        });
        runs();
        Sentences.test("T1", "The value: 2^(4 R + E) times (1 + f / 2^F).", () -> {
            for (int n = 3; n <= 9; n++) {
                for (long u = 0; u < 1L << n; u++) {
                    Sentences.due(u + " of width " + n, Houses.exact(n, u), Oracle.exact(u, n));
                }
            }
            Sentences.due("f 1 of 27 bits", Houses.exact(32, 0x40000001), "1.000000007450580596923828125");
            Sentences.due("all 27 bits of f", Houses.exact(32, 0x47FFFFFF), "1.999999992549419403076171875");
            Sentences.due("f 1 of 4 bits", Houses.exact(9, 0x81), "1.0625");
        });
        Sentences.test("T1", "(Greater ones of these patterns have greater values.)", () -> {
            for (int n = 3; n <= 32; n++) {
                for (long u = 1; u < (1L << (n - 1)) - 1; u = u < 40 ? u + 1 : u * 9 / 8) {
                    Sentences.due(u + " and the next", Houses.of(n, (int) u, (int) u + 1).order(0, 1), -1);
                }
            }
        });
    }

    private static void runs() {
        String cut = "Of 1 .. 2^(n-1) - 1: its n - 1 lower bits from the highest on are: a run of k equal bits, as long as"
            + " can be; one bit more, the other one (if there is one left); two bits E, the higher one first, and what is"
            + " left: F bits, a number f (of E, bits that aren't left are 0; without any left F is 0, f 0).";
        Sentences.test("T1", cut, () -> {
            exponents(3, -4, 0, 4);
            exponents(4, -8, -4, -2, 0, 2, 4, 8);
            exponents(5, -12, -8, -6, -4, -3, -2, -1, 0, 1, 2, 3, 4, 6, 8, 12);
        });
        Sentences.test("T1", cut, () -> {
            Sentences.due("no bit is left behind the run", Houses.exact(8, 0x7F), "16777216");
            Sentences.due("only the other bit is left", Houses.exact(8, 0x7E), "1048576");
            Sentences.due("one bit of E is left, a 0", Houses.exact(8, 0x7C), "65536");
            Sentences.due("one bit of E is left, a 1", Houses.exact(8, 0x7D), "262144");
            Sentences.due("both bits of E are left", Houses.exact(8, 0x79), "8192");
            Sentences.due("one bit of f is left", Houses.exact(8, 0x71), "384");
            Sentences.due("the same of noughts, only the other bit", Houses.exact(8, 0x01), "0.000000059604644775390625");
            Sentences.due("one bit of E behind noughts", Houses.exact(8, 0x03), "0.000003814697265625");
            Sentences.due("both bits of E behind noughts", Houses.exact(8, 0x05), "0.000030517578125");
        });
        Sentences.test("T1", "R is k - 1 if the run's bits are 1, else -k.", () -> {
            for (int n = 3; n <= 32; n++) {
                Sentences.due("greatest of " + n, Houses.exact(n, (1L << (n - 1)) - 1),
                    powerOfTwo(4 * (n - 2)).toPlainString());
                Sentences.due("least of " + n, Houses.exact(n, 1), powerOfTwo(-4 * (n - 2)).toPlainString());
                Sentences.due("k 1 of ones, of " + n, Houses.exact(n, 1L << (n - 2)), "1");
            }
            Sentences.due("k 1 of noughts", Houses.exact(5, 4), "0.0625");
        });
    }

    /** The patterns 1, 2, .. of a width are these powers of 2. */
    private static void exponents(int n, int... want) {
        for (int i = 0; i < want.length; i++) {
            Sentences.due((i + 1) + " of width " + n, Houses.exact(n, i + 1), powerOfTwo(want[i]).toPlainString());
        }
    }

    // ---- term 2

    private static long taken(int from, long bits, int to) {
        PositHouse x = Houses.of(from, (int) bits);
        x.take(0, 1, to);
        return x.pattern(1);
    }

    private static void rounding() {
        Sentences.test("T2", "ROUND of a real number v to a width n is a pattern: of 0 it is 0;", () -> {
            for (int n = 3; n <= 32; n++) {
                Sentences.due("0 to width " + n, taken(32, 0, n), 0);
            }
        });
        Sentences.test("T2", "of v below 0, with u that of -v, 2^n - u.", () -> {
            for (int n = 3; n <= 32; n++) {
                for (int bits = 1; bits > 0; bits = bits * 3 + 1) {
                    Sentences.due("minus", taken(32, -bits, n), (1L << n) - taken(32, bits, n));
                }
                Sentences.due("-2^-120", taken(32, -Houses.LEAST, n), (1L << n) - 1);
                Sentences.due("-2^120", taken(32, -Houses.GREATEST, n), (1L << (n - 1)) + 1);
            }
            Sentences.due("a tie below 0, to 1", taken(4, 16 - 5, 3), 6);
            Sentences.due("a tie below 0, to 1, from above", taken(4, 16 - 3, 3), 6);
        });
        Sentences.test("T2", "Of v above 0: 1 if v isn't above the value of 1;", () -> {
            for (int n = 3; n < 32; n++) {
                Sentences.due("the value of 1 to width " + n, taken(32, 1L << (32 - n), n), 1);
                Sentences.due("a little less", taken(32, (1L << (32 - n)) - 1, n), 1);
                Sentences.due("2^-120", taken(32, 1, n), 1);
            }
            PositHouse x = Houses.of(32, Houses.LEAST);
            x.times(0, 0, 1);
            Sentences.due("2^-240 to width 32", x.pattern(1), 1);
        });
        Sentences.test("T2", "2^(n-1) - 1 if it isn't below the value of that;", () -> {
            for (int n = 3; n < 32; n++) {
                long most = (1L << (n - 1)) - 1;
                Sentences.due("the greatest to width " + n, taken(32, most << (32 - n), n), most);
                Sentences.due("a little more", taken(32, (most << (32 - n)) + 1, n), most);
                Sentences.due("2^120", taken(32, Houses.GREATEST, n), most);
            }
            PositHouse x = Houses.of(32, Houses.GREATEST);
            x.times(0, 0, 1);
            Sentences.due("2^240 to width 32", x.pattern(1), Houses.GREATEST);
        });
        nearestOnes();
    }

    private static void nearestOnes() {
        String rule = "else with u the greatest pattern below 2^(n-1) whose value isn't above v, and w the value of the"
            + " pattern 2 u + 1 of width n + 1: u if v is below w, u + 1 if it is above w, the even one of both if it is w.";
        Sentences.test("T2", rule, () -> {
            for (int n = 3; n <= 30; n++) {
                long most = (1L << (n - 1)) - 1;
                for (long u = 1; u < most; u = u < 70 ? u + 1 : u * 3 / 2) {
                    aroundBound(n, u);
                }
                aroundBound(n, most - 1);
                aroundBound(n, 1L << (n - 2));
                aroundBound(n, Math.max(1, (1L << (n - 2)) - 1));
            }
        });
        Sentences.test("T2", rule, () -> {
            halfStepMore(Houses.ONE, 0, Houses.ONE);
            halfStepMore(Houses.ONE + 1, 0, Houses.ONE + 2);
            halfStepMore(Houses.ONE, 1, Houses.ONE + 1);
            halfStepMore(Houses.ONE + 1, -1, Houses.ONE + 1);
        });
    }

    /** w as a pattern of width 32, and its neighbours. */
    private static void aroundBound(int n, long u) {
        long w = (2 * u + 1) << (31 - n);
        Sentences.due("w of " + u + "/" + n, taken(32, w, n), u % 2 == 0 ? u : u + 1);
        Sentences.due("below w of " + u + "/" + n, taken(32, w - 1, n), u);
        Sentences.due("above w of " + u + "/" + n, taken(32, w + 1, n), u + 1);
    }

    /** Bounds of width 32 itself come as sums: 2^-28 is half a step at 1; off moves it to a neighbour. */
    private static void halfStepMore(int bits, int off, long want) {
        PositHouse x = Houses.of(32, bits);
        x.ratio(1, 1, 1 << 28);
        x.set(1, 32, (int) x.pattern(1) + off);
        x.add(0, 1, 2);
        Sentences.due("a sum at a bound of width 32", x.pattern(2), want);
    }

    // ---- term 3

    private static void places() {
        Sentences.test("T3", "PLACES 0 .. 31 have a POSIT each: a width and a pattern; at first all have width 32 and the"
            + " pattern 0.", () -> {
                PositHouse x = new PositHouse();
                for (int p = 0; p < 32; p++) {
                    Sentences.due("width at first", x.width(p), 32);
                    Sentences.due("pattern at first", x.pattern(p), 0);
                }
                for (int p = 0; p < 32; p++) {
                    x.set(p, 3 + p % 30, p + 1);
                }
                for (int p = 0; p < 32; p++) {
                    Sentences.due("its own width", x.width(p), 3 + p % 30);
                    Sentences.due("its own pattern", x.pattern(p), (p + 1) & ((1L << (3 + p % 30)) - 1));
                }
            });
        Sentences.test("T3", "\"Place r becomes v\" (a real number): its pattern is ROUND of v to the width that it has,"
            + " which stays; NaR: the pattern of NaR.", () -> {
                for (int n = 3; n <= 32; n++) {
                    Sentences.due("1 of " + n, Houses.becomes(n, 3, 0, 0, x -> x.ratio(9, 5, 5)), 1L << (n - 2));
                    Sentences.due("NaR of " + n, Houses.becomes(n, 3, 0, 0, x -> x.ratio(9, 5, 0)), 1L << (n - 1));
                }
            });
        String nar = "What is told of places is told of the values of their patterns; all that is reckoned with a NaR is NaR,"
            + " but where told.";
        Sentences.test("T3", nar, () -> {
            Houses.Call[] acts = {x -> x.add(0, 1, 9), x -> x.add(1, 0, 9), x -> x.less(0, 1, 9), x -> x.less(1, 0, 9),
                x -> x.times(0, 1, 9), x -> x.times(1, 0, 9), x -> x.over(0, 1, 9), x -> x.over(1, 0, 9),
                x -> x.fused(0, 1, 9), x -> x.fused(1, 0, 9), x -> x.root(0, 1, 9), x -> x.root(0, 8, 9),
                x -> x.under(0, 9), x -> x.far(0, 1, 9), x -> x.far(1, 0, 9), x -> x.power(0, 1, 9),
                x -> x.power(0, -1, 9), x -> x.power(0, 0, 9), x -> x.take(0, 9, 11)};
            for (int i = 0; i < acts.length; i++) {
                for (int other : new int[] {0, Houses.ONE, -Houses.GREATEST, Houses.NAR}) {
                    Sentences.due("act " + i, Houses.becomes(11, 5, Houses.NAR, other, acts[i]), 0x400);
                }
            }
            Sentences.due("fused to NaR", Houses.becomes(11, 0x400, Houses.ONE, 0, x -> x.fused(0, 1, 9)), 0x400);
        });
        Sentences.test("T3", nar, () -> {
            PositHouse x = new PositHouse();
            x.set(0, 3, 2);
            x.set(1, 32, Houses.ONE);
            x.add(0, 1, 2);
            Sentences.due("1 of width 3 and 1 of width 32", x.pattern(2), Houses.TWO);
        });
        samePlaces();
    }

    private static long same(int bits, Houses.Call act) {
        PositHouse x = new PositHouse();
        x.set(4, 32, bits);
        act.on(x);
        Sentences.due("the places beside it", x.pattern(3) + x.pattern(5), 0);
        return x.pattern(4);
    }

    private static void samePlaces() {
        Sentences.test("T3", "p, q, r may be the same place (they are looked at before anything changes).", () -> {
            Sentences.due("add", same(Houses.TWO, x -> x.add(4, 4, 4)), Houses.FOUR);
            Sentences.due("less", same(Houses.THREE, x -> x.less(4, 4, 4)), 0);
            Sentences.due("times", same(Houses.FOUR, x -> x.times(4, 4, 4)), Houses.SIXTEEN);
            Sentences.due("over", same(Houses.THREE, x -> x.over(4, 4, 4)), Houses.ONE);
            Sentences.due("fused, 1 + 1", same(Houses.ONE, x -> x.fused(4, 4, 4)), Houses.TWO);
            Sentences.due("fused, 1 - 1", same(-Houses.ONE, x -> x.fused(4, 4, 4)), 0);
            Sentences.due("root", same(Houses.SIXTEEN, x -> x.root(4, 2, 4)), Houses.FOUR);
            Sentences.due("under", same(Houses.SIXTEEN, x -> x.under(4, 4)), Houses.QUARTER);
            Sentences.due("far of 0", same(0, x -> x.far(4, 4, 4)), 0);
            Sentences.due("power", same(Houses.TWO, x -> x.power(4, 4, 4)), Houses.SIXTEEN);
            Sentences.due("order", Houses.of(32, Houses.NAR).order(0, 0), 0);
            Sentences.due("take", same(Houses.TWO, x -> x.take(4, 4, 3)), 2);
            Sentences.due("take, wider", same(0, x -> {
                x.set(4, 3, 5);
                x.take(4, 4, 32);
            }), 0xA0000000L);
        });
    }

    // ---- term 4

    private static void image(String what, PositHouse x, int k, BigInteger want) {
        for (int i = 0; i < 16; i++) {
            Sentences.due(what + ", word " + i, x.image(k, i), want.shiftRight(32 * i).intValue());
        }
    }

    private static void quires() {
        Sentences.test("T4", "QUIRES 0 .. 3 hold a real number each, exactly, or NaR; at first 0.", () -> {
            PositHouse x = Houses.of(32, Houses.LEAST, Houses.GREATEST, Houses.NAR, Houses.ONE);
            for (int k = 0; k < 4; k++) {
                image("at first", x, k, BigInteger.ZERO);
            }
            x.gather(0, 1, 1, false);
            x.gather(0, 0, 0, true);
            x.gather(1, 2, 2, false);
            x.gather(3, 3, 3, true);
            image("2^240 - 2^-240", x, 0, BigInteger.TWO.pow(480).subtract(BigInteger.ONE));
            image("NaR", x, 1, BigInteger.TWO.pow(511));
            image("0 still", x, 2, BigInteger.ZERO);
            image("-1", x, 3, BigInteger.TWO.pow(240).negate());
        });
        String room = "A quire's IMAGE is its number times 2^240, as a whole number of 512 bits, two's complement (it is one"
            + " that has room there, always);";
        Sentences.test("T4", room, () -> {
            PositHouse x = Houses.of(32, Houses.LEAST, Houses.GREATEST);
            x.gather(0, 0, 0, false);
            image("the least number", x, 0, BigInteger.ONE);
            x.gather(0, 0, 0, true);
            x.gather(0, 0, 0, true);
            image("the greatest one below 0", x, 0, BigInteger.ONE.negate());
        });
        Sentences.test("T4", room, () -> {
            for (int sign = 0; sign < 2; sign++) {
                PositHouse x = new PositHouse();
                for (int i = 0; i < 32; i++) {
                    x.set(i, 32, i < 16 || sign == 0 ? Houses.GREATEST : -Houses.GREATEST);
                }
                for (int i = 0; i < 462; i++) {
                    x.dot(2, 0, sign == 0 ? 0 : 16, sign == 0 ? 32 : 16);
                }
                BigInteger want = BigInteger.TWO.pow(480).multiply(BigInteger.valueOf(sign == 0 ? 462 * 32 : -462 * 16));
                image("the most that calls can bring", x, 2, want);
                x.settle(2, 0);
                Sentences.due("settled", x.pattern(0), sign == 0 ? Houses.GREATEST : 0x80000001L);
            }
        });
        Sentences.test("T4", "of NaR the bit 511 alone.", () -> {
            PositHouse x = Houses.of(32, Houses.LEAST, -Houses.GREATEST, Houses.NAR);
            x.gather(0, 0, 1, false);
            x.gather(0, 2, 0, false);
            image("NaR in a number's place", x, 0, BigInteger.TWO.pow(511));
        });
    }

    // ---- term 5

    private static void reads(String text, int n, long want) {
        PositHouse x = new PositHouse();
        x.set(3, n, 5);
        Houses.say(x, text);
        Sentences.due("read of " + text, x.read(3), 0);
        Sentences.due("pattern of " + text, x.pattern(3), want);
    }

    private static void wrongAt(String text, int at) {
        PositHouse x = new PositHouse();
        x.set(3, 8, 0x55);
        Houses.say(x, text);
        Sentences.due("read of " + text, x.read(3), -1 - at);
        Sentences.due("pattern after " + text, x.pattern(3), 0x55);
    }

    private static void decimals() {
        String form = "A DECIMAL is a text: perhaps -; one or more digits; perhaps . and one or more digits; perhaps e,"
            + " perhaps + or -, and one to three digits X: the digits as a number, with the dot, times 10 to the power X"
            + " (or -X);";
        Sentences.test("T5", form, () -> {
            String[] threes = {"3", "03", "3.0", "3.000", "3e0", "3e+0", "3e-0", "3e00", "3e000", "3e+000", "3e-000",
                "0.3e1", "0.3e+01", "0.003e003", "30e-1", "300e-002", "3000.0e-3", "00000.0300e2"};
            for (String text : threes) {
                reads(text, 8, 0x4C);
                reads("-" + text, 8, 0xB4);
            }
        });
        Sentences.test("T5", form, () -> {
            reads("1e36", 32, 0x7FFFFFFF);
            reads("1e999", 32, 0x7FFFFFFF);
            reads("-1e999", 32, 0x80000001L);
            reads("1e-999", 32, 1);
            reads("-1e-999", 32, 0xFFFFFFFFL);
            reads("0." + "0".repeat(58) + "1e999", 32, 0x7FFFFFFF);
            reads("1" + "0".repeat(59) + "e-999", 32, 1);
            reads("0." + "0".repeat(58) + "1e+059", 8, 0x40);
            reads("1" + "0".repeat(59) + "e-059", 8, 0x40);
            reads("0." + "0".repeat(58) + "1", 32, 1);
            reads("9".repeat(60), 32, 0x7FFFFFFF);
        });
        Sentences.test("T5", form, () -> {
            reads("4", 3, 2);
            reads("4." + "0".repeat(58) + "1", 3, 3);
            reads("3." + "9".repeat(59), 3, 2);
            reads("0.25", 3, 2);
            reads("0.24" + "9".repeat(57), 3, 1);
            reads("0.25" + "0".repeat(56) + "1", 3, 2);
            reads("-4", 3, 6);
            reads("-4." + "0".repeat(58) + "1", 3, 5);
            reads("0." + "0".repeat(40) + "1e45", 3, 3);
            reads("4" + "0".repeat(59) + "e-59", 3, 2);
            reads("4" + "0".repeat(58) + "1e-59", 3, 3);
        });
        Sentences.test("T5", "at most 60 digits ahead of e.", () -> {
            reads("0".repeat(59) + "3", 8, 0x4C);
            reads("-" + "0".repeat(59) + "3", 8, 0xB4);
            reads("3." + "0".repeat(59), 8, 0x4C);
            reads("0".repeat(59) + ".3e+001", 8, 0x4C);
            reads("-" + "0".repeat(30) + "." + "0".repeat(29) + "3e+030", 8, 0xB4);
            wrongAt("0".repeat(60) + "3", 60);
            wrongAt("-" + "0".repeat(60) + "3", 61);
            wrongAt("3." + "0".repeat(60), 61);
        });
        Sentences.test("T5", "Or the three letters NaR.", () -> {
            reads("NaR", 3, 4);
            reads("NaR", 8, 0x80);
            reads("NaR", 32, 0x80000000L);
        });
        Sentences.test("T5", "(-0 is 0.)", () -> {
            for (String text : new String[] {"-0", "-0.0", "-0e5", "-000.000e-999", "-0e999", "0", "0e-999"}) {
                reads(text, 8, 0);
                reads(text, 32, 0);
            }
        });
    }

    private static void decimalsWrong() {
        String first = "WRONG is the first byte that can't be there (the 61st digit too);";
        Sentences.test("T5", first, () -> {
            wrongAt("+1", 0);
            wrongAt(" 1", 0);
            wrongAt(".5", 0);
            wrongAt("e5", 0);
            wrongAt("aR", 0);
            wrongAt("nAR", 0);
            wrongAt("/", 0);
            wrongAt(":", 0);
            wrongAt("\u0000", 0);
            wrongAt("\u0080", 0);
            wrongAt("\u00ff", 0);
            wrongAt("--1", 1);
            wrongAt("-+1", 1);
            wrongAt("-.5", 1);
            wrongAt("-e5", 1);
            wrongAt("-NaR", 1);
        });
        Sentences.test("T5", first, () -> {
            for (int one = 0; one < 256; one++) {
                boolean digit = one >= '0' && one <= '9';
                if (!digit && one != '.' && one != 'e') {
                    wrongAt("1" + (char) one + "5", 1);
                }
                if (!digit) {
                    wrongAt("1." + (char) one + "5", 2);
                    wrongAt("-" + (char) one + "5", 1);
                    wrongAt("1e+" + (char) one + "5", 3);
                    wrongAt("1e-" + (char) one + "5", 3);
                    wrongAt("1e5" + (char) one + "5", 3);
                }
                if (!digit && one != 'e') {
                    wrongAt("1.5" + (char) one + "5", 3);
                }
                if (!digit && one != '+' && one != '-') {
                    wrongAt("1e" + (char) one + "5", 2);
                }
                if (!digit && one != '-' && one != 'N') {
                    wrongAt((char) one + "5", 0);
                }
            }
        });
        Sentences.test("T5", first, () -> {
            wrongAt("1e0000", 5);
            wrongAt("1e+1234", 6);
            wrongAt("1e-1234", 6);
            wrongAt("1e123.", 5);
            wrongAt("1e123e", 5);
            wrongAt("NAR", 1);
            wrongAt("N1R", 1);
            wrongAt("Nar", 2);
            wrongAt("Na1", 2);
            wrongAt("NaRN", 3);
            wrongAt("NaR1", 3);
            wrongAt("NaR ", 3);
            wrongAt("NaRe1", 3);
            wrongAt("1.2.3", 3);
            wrongAt("1x.y", 1);
        });
        Sentences.test("T5", first, () -> {
            wrongAt(SIXTY + "0", 60);
            wrongAt(SIXTY + "01x", 60);
            wrongAt(SIXTY + "x", 60);
            wrongAt("-" + SIXTY + "0", 61);
            wrongAt("0." + SIXTY, 61);
            wrongAt("-0." + SIXTY + "e5", 62);
            wrongAt(SIXTY + ".0", 61);
            wrongAt(SIXTY + ".x", 61);
            wrongAt(SIXTY.substring(1) + ".00", 61);
            wrongAt("-" + SIXTY + "e+9999", 66);
            wrongAt("-" + SIXTY.substring(1) + ".1e-999x", 67);
            wrongAt("x" + "1".repeat(79), 0);
            wrongAt("1".repeat(80), 60);
        });
        Sentences.test("T5", "the length, if the text ends too soon.", () -> {
            for (String text : new String[] {"", "-", "1.", "-1.", "12.", "1e", "1e+", "1e-", "-1.5e", "-1.5e-", "N", "Na",
                SIXTY + ".", SIXTY + "e", "-" + SIXTY + "e-"}) {
                wrongAt(text, text.length());
            }
        });
    }

    // ---- EXACT and SHORT

    private static void exactTexts() {
        Sentences.test("TEXT", "EXACT: a - if it is below 0, the whole part, and if it isn't whole . and the other digits, as"
            + " many as needed (0 is 0, NaR is NaR).", () -> {
                Sentences.due("1", Houses.exact(8, 0x40), "1");
                Sentences.due("-1", Houses.exact(8, 0xC0), "-1");
                Sentences.due("10", Houses.exact(8, 0x5A), "10");
                Sentences.due("1.5", Houses.exact(8, 0x44), "1.5");
                Sentences.due("-1.5", Houses.exact(8, 0xBC), "-1.5");
                Sentences.due("0.5", Houses.exact(8, 0x38), "0.5");
                Sentences.due("-0.0625", Houses.exact(3, 7), "-0.0625");
                Sentences.due("0", Houses.exact(3, 0), "0");
                Sentences.due("NaR", Houses.exact(3, 4), "NaR");
                String least = powerOfTwo(-120).toPlainString();
                Sentences.due("the longest", Houses.exact(32, 0xFFFFFFFFL), "-" + least);
                Sentences.due("the longest's bytes", Houses.of(32, -1).write(0, false), 123);
                Sentences.due("the greatest", Houses.exact(32, 0x7FFFFFFF), "1329227995784915872903807060280344576");
                Sentences.due("the least", Houses.exact(32, 0x80000001L), "-1329227995784915872903807060280344576");
                Sentences.due("the last one that isn't whole", Houses.exact(32, 0x7E7FFFFF), "4194303.5");
                Sentences.due("the one behind it", Houses.exact(32, 0x7E800000), "4194304");
                Sentences.due("a whole one with all bits of f", Houses.exact(32, 0x7EBFFFFF), "8388607");
            });
    }

    private static void shortTexts() {
        String few = "SHORT: of the decimals d times 10 to the power of a whole number, d a whole number above 0 that 10 doesn't"
            + " divide, for which ROUND to the posit's width gives the pattern (with a - ahead of all, if the value is below"
            + " 0; otherwise without its sign), those of which d has the fewest digits;";
        Sentences.test("TEXT", few, () -> {
            Sentences.due("1 of any width", Houses.brief(32, Houses.ONE), "1e0");
            Sentences.due("10", Houses.brief(8, 0x5A), "1e1");
            Sentences.due("-10", Houses.brief(8, 0xA6), "-1e1");
            Sentences.due("1/3", Houses.brief(32, 850045611), "3.33333334e-1");
            Sentences.due("2^93, nearly 1e28", Houses.brief(32, 0x7FFFFF90), Oracle.brief(0x7FFFFF90, 32));
            Sentences.due("2^-10, nearly 1e-3", Houses.brief(8, 0x0C), "1e-3");
            Sentences.due("-2^-10", Houses.brief(8, 0xF4), "-1e-3");
        });
        Sentences.test("TEXT", few, () -> {
            Sentences.due("all below the least are its own", Houses.brief(32, 1), "8e-37");
            Sentences.due("all above the greatest are its own", Houses.brief(32, 0x7FFFFFFF), "1e36");
            Sentences.due("the least of width 3", Houses.brief(3, 1), "6e-2");
            Sentences.due("the greatest of width 3", Houses.brief(3, 3), "2e1");
            Sentences.due("their minus", Houses.brief(3, 7) + Houses.brief(3, 5), "-6e-2-2e1");
        });
        Sentences.test("TEXT", few, TermsBoundaryTest::boundsThatAreDecimals);
        Sentences.test("TEXT", "of these the one that is nearest to the value;", () -> {
            Sentences.due("16 of width 3: 2e1, not 1e1", Houses.brief(3, 3), "2e1");
            Sentences.due("1/16 of width 3: 6e-2, not 7e-2 or 1e-1", Houses.brief(3, 1), "6e-2");
            Sentences.due("4 of width 4: 4e0", Houses.brief(4, 5), "4e0");
            Sentences.due("256 of width 4: 3e2", Houses.brief(4, 7), "3e2");
            Sentences.due("64 of width 5: 6e1", Houses.brief(5, 13), "6e1");
            Sentences.due("2^-12 of width 5: 2e-4", Houses.brief(5, 1), "2e-4");
            for (int n = 3; n <= 9; n++) {
                for (long u = 0; u < 1L << n; u++) {
                    Sentences.due(u + " of width " + n, Houses.brief(n, u), Oracle.brief(u, n));
                }
            }
        });
        Sentences.test("TEXT", "of two the lesser one.", () -> {
            Sentences.due("0.25 of width 4", Houses.brief(4, 3), "2e-1");
            Sentences.due("0.25 of width 5", Houses.brief(5, 6), "2e-1");
            Sentences.due("-0.25 of width 4", Houses.brief(4, 13), "-2e-1");
            Sentences.due("-0.25 of width 5", Houses.brief(5, 26), "-2e-1");
        });
        Sentences.test("TEXT", "Written: a - if the value is below 0, d's first digit, if there are more . and the others, e, -"
            + " if the power is below 0, and the power of 10 of the first digit (3e-2 is 0.03; 1.25e1).", () -> {
                Sentences.due("one digit, power 0", Houses.brief(8, 0x48), "2e0");
                Sentences.due("two digits, power 0", Houses.brief(8, 0x44), "1.5e0");
                Sentences.due("two digits, below 0", Houses.brief(8, 0xBC), "-1.5e0");
                Sentences.due("12.5", Houses.brief(16, 0x5C80), "1.25e1");
                Sentences.due("-12.5", Houses.brief(16, 0xA380), "-1.25e1");
                Sentences.due("0.5", Houses.brief(8, 0x38), "5e-1");
                Sentences.due("0.03125 of width 4 bits behind", Houses.brief(6, 9), Oracle.brief(9, 6));
                Sentences.due("a power of two digits", Houses.brief(32, 0x7FFFFFFF), "1e36");
                Sentences.due("one below 0", Houses.brief(32, 0xFFFFFFFFL), "-8e-37");
                for (int p = -9; p <= 12; p++) {
                    PositHouse x = new PositHouse();
                    Houses.say(x, "1.25e" + p);
                    x.read(0);
                    Sentences.due("the power " + p, Houses.written(x, 0, true), "1.25e" + p);
                }
            });
        Sentences.test("TEXT", "0 is 0, NaR is NaR.", () -> {
            for (int n = 3; n <= 32; n++) {
                Sentences.due("0", Houses.brief(n, 0), "0");
                Sentences.due("NaR", Houses.brief(n, 1L << (n - 1)), "NaR");
            }
        });
    }

    /** A bound belongs to the even one of its two patterns: 4 of width 3 is 1's; 0.25, too. */
    private static void boundsThatAreDecimals() {
        int met = 0;
        for (int n = 3; n <= 12; n++) {
            for (long u = 1; u < (1L << (n - 1)) - 1; u++) {
                String bound = new BigDecimal(Oracle.value(2 * u + 1, n + 1).top).divide(
                    new BigDecimal(Oracle.value(2 * u + 1, n + 1).bottom)).stripTrailingZeros().unscaledValue().toString();
                if (bound.length() <= 4) {
                    met++;
                    Sentences.due("below a bound", Houses.brief(n, u), Oracle.brief(u, n));
                    Sentences.due("above a bound", Houses.brief(n, u + 1), Oracle.brief(u + 1, n));
                }
            }
        }
        if (met < 100) {
            Sentences.fault("only " + met + " bounds are short decimals");
        }
    }

    // ---- exceptions

    private static void exceptions() {
        String index = "IndexOutOfBoundsException: a place, quire that is none (of p, q, r, whatever else is told);";
        Sentences.test("THROWS", index, () -> {
            PositHouse x = new PositHouse();
            for (int p : new int[] {0, 31}) {
                x.set(p, 32, Houses.ONE);
                x.take(p, p, 32);
                x.ratio(p, 1, 1);
                x.add(p, p, p);
                x.less(p, p, p);
                x.far(p, p, p);
                x.turn(p, 0);
                x.gather(0, p, p, false);
                x.settle(3, p);
                x.write(p, true);
                x.feed('2', 1);
                x.read(p);
                Sentences.due("place " + p, x.pattern(p), Houses.TWO);
                Sentences.due("width of " + p, x.width(p), 32);
                Sentences.due("whole of " + p, x.whole(p), 2);
            }
        });
        Sentences.test("THROWS", index, () -> {
            for (int none : Houses.NO_PLACE) {
                for (int other : Houses.NO_PLACE) {
                    Houses.refused("two are none", Houses.INDEX, x -> x.add(none, other, 0));
                    Houses.refused("two are none", Houses.INDEX, x -> x.add(0, other, none));
                }
                Houses.refused("all are none", Houses.INDEX, x -> x.fused(none, none, none));
                Houses.refused("none, that would give NaR", Houses.INDEX, x -> x.over(2, none, 2));
                Houses.refused("none, with a NaR", Houses.INDEX, x -> x.add(2, 2, none));
            }
        });
        Sentences.test("THROWS", "IllegalArgumentException: as told (behind that).", () -> {
            Houses.refused("set", Houses.INDEX, x -> x.set(32, 2, 0));
            Houses.refused("set", Houses.INDEX, x -> x.set(-1, 33, 0));
            Houses.refused("take from none", Houses.INDEX, x -> x.take(32, 0, 2));
            Houses.refused("take to none", Houses.INDEX, x -> x.take(0, -1, 33));
            Houses.refused("root of none", Houses.INDEX, x -> x.root(-1, 0, 0));
            Houses.refused("root to none", Houses.INDEX, x -> x.root(0, 9, 32));
            Houses.refused("power of none", Houses.INDEX, x -> x.power(32, 17, 0));
            Houses.refused("power to none", Houses.INDEX, x -> x.power(0, -17, 32));
            Houses.refused("turn", Houses.INDEX, x -> x.turn(32, 8));
            Houses.refused("dot to none", Houses.INDEX, x -> x.dot(4, 0, 0, 33));
            Houses.refused("dot of none", Houses.INDEX, x -> x.dot(0, 32, 0, 33));
            Houses.refused("dot with none", Houses.INDEX, x -> x.dot(0, 0, -1, -1));
            Houses.refused("image", Houses.INDEX, x -> x.image(-1, 16));
        });
        Sentences.test("THROWS", "A call that throws changes nothing.", () -> {
            Houses.refused("take of itself", Houses.ARGUMENT, x -> x.take(0, 0, 2));
            Houses.refused("whole of NaR", Houses.ARITHMETIC, x -> x.whole(2));
            Houses.refused("a dot that goes too far at its end", Houses.INDEX, x -> x.dot(0, 0, 1, 32));
            Houses.refused("feed of nothing", Houses.ARGUMENT, x -> x.feed(0x3333, 0));
            Houses.refused("feed of nine", Houses.ARGUMENT, x -> x.feed(0x3333, 9));
            Houses.refused("read to none", Houses.INDEX, x -> x.read(32));
            Houses.refused("write of none", Houses.INDEX, x -> x.write(32, true));
            Houses.refused("settle to none", Houses.INDEX, x -> x.settle(1, 32));
            Houses.refused("clear of none", Houses.INDEX, x -> x.clear(4));
        });
    }

    // ---- promise 1

    private static void newObject() {
        Sentences.test("P1", "All places 0 of width 32, all quires 0, no bytes, nothing written.", () -> {
            PositHouse old = Houses.furnished();
            PositHouse x = new PositHouse();
            for (int p = 0; p < 32; p++) {
                Sentences.due("pattern " + p, x.pattern(p), 0);
                Sentences.due("width " + p, x.width(p), 32);
            }
            for (int k = 0; k < 4; k++) {
                image("quire " + k, x, k, BigInteger.ZERO);
            }
            for (int i = -1; i < 5; i++) {
                Sentences.due("letter " + i, x.letter(i), -1);
            }
            Sentences.due("read of no bytes", x.read(0), -1);
            Sentences.due("the first byte", x.feed('1', 1), 1);
            Sentences.due("the one that was there", old.feed('1', 1), 3);
        });
        Sentences.test("P1", "All places 0 of width 32, all quires 0, no bytes, nothing written.", () -> {
            PositHouse x = new PositHouse();
            x.settle(0, 5);
            Sentences.due("settled at once", x.pattern(5), 0);
            Sentences.due("whole at once", x.whole(5), 0);
            Sentences.due("written at once", Houses.written(x, 31, true), "0");
        });
    }
}
