import java.io.IOException;

/** The sentences of promises 2 to 8. */
public final class PlacesBoundaryTest {
    private static final int[] NO_WIDTH = {2, 33, 1, 0, -1, -3, 35, 64, 256 + 8, Integer.MIN_VALUE, Integer.MAX_VALUE};

    public static void main(String[] args) throws IOException {
        Sentences.open();
        set();
        pattern();
        width();
        take();
        ratio();
        whole();
        order();
        Sentences.close("P2", "P3", "P4", "P5", "P6", "P7", "P8");
    }

    private static void set() {
        String rule = "Place r has width n from now on, and the pattern that the lowest n bits of bits are.";
        Sentences.test("P2", rule, () -> {
            for (int n = 3; n <= 32; n++) {
                PositHouse x = new PositHouse();
                long most = (1L << n) - 1;
                for (int bits : new int[] {0, 1, -1, Integer.MIN_VALUE, Integer.MAX_VALUE, 1 << (n - 1), 0x5A5A5A5A}) {
                    x.set(31, n, bits);
                    Sentences.due("pattern of " + bits + "/" + n, x.pattern(31), bits & most);
                    Sentences.due("width of " + bits + "/" + n, x.width(31), n);
                }
                Sentences.due("the place ahead", x.pattern(30) + x.width(30), 32);
            }
        });
        Sentences.test("P2", rule, () -> {
            PositHouse x = new PositHouse();
            x.set(0, 3, 8);
            Sentences.due("2^n is 0 again", x.pattern(0), 0);
            x.set(0, 31, Integer.MIN_VALUE);
            Sentences.due("2^31 of width 31", x.pattern(0), 0);
            x.set(0, 32, Integer.MIN_VALUE);
            Sentences.due("2^31 of width 32", x.pattern(0), 2147483648L);
            x.set(0, 3, -5);
            Sentences.due("-5 of width 3", x.pattern(0), 3);
            x.ratio(0, 100, 1);
            Sentences.due("the width stays from then on", x.width(0), 3);
            Sentences.due("and rounds what comes", x.pattern(0), 3);
        });
        Sentences.test("P2", "IllegalArgumentException: n isn't 3 .. 32.", () -> {
            PositHouse x = new PositHouse();
            x.set(0, 3, 7);
            x.set(31, 32, 7);
            Sentences.due("the least width and the greatest one", x.width(0) * 100 + x.width(31), 332);
            for (int n : NO_WIDTH) {
                Houses.refused("set of width " + n, Houses.ARGUMENT, h -> h.set(0, n, 1));
            }
            for (int none : Houses.NO_PLACE) {
                Houses.refused("set of place " + none, Houses.INDEX, h -> h.set(none, 8, 1));
                Houses.refused("set of place " + none + ", no width", Houses.INDEX, h -> h.set(none, 33, 1));
            }
        });
    }

    private static void pattern() {
        Sentences.test("P3", "The pattern at p.", () -> {
            PositHouse x = new PositHouse();
            x.set(0, 32, -1);
            x.set(31, 3, -1);
            Sentences.due("the greatest pattern is above 0", x.pattern(0), 4294967295L);
            Sentences.due("at the last place", x.pattern(31), 7);
            Sentences.due("beside", x.pattern(1) + x.pattern(30), 0);
            Sentences.due("asked again", x.pattern(0), 4294967295L);
            for (int none : Houses.NO_PLACE) {
                Houses.refused("pattern at " + none, Houses.INDEX, h -> h.pattern(none));
            }
        });
    }

    private static void width() {
        Sentences.test("P4", "The width of p.", () -> {
            PositHouse x = new PositHouse();
            x.set(0, 3, 1);
            x.take(0, 31, 4);
            Sentences.due("at the first place", x.width(0), 3);
            Sentences.due("at the last place", x.width(31), 4);
            Sentences.due("of one that was never set", x.width(15), 32);
            x.ratio(0, 1, 0);
            Sentences.due("of NaR", x.width(0), 3);
            for (int none : Houses.NO_PLACE) {
                Houses.refused("width of " + none, Houses.INDEX, h -> h.width(none));
            }
        });
    }

    private static long taken(int from, int bits, int to) {
        PositHouse x = Houses.of(from, bits);
        x.set(7, 20, 0x12345);
        x.take(0, 7, to);
        Sentences.due("width of what was taken", x.width(7), to);
        Sentences.due("width of what it was taken from", x.width(0), from);
        Sentences.due("pattern of what it was taken from", x.pattern(0), bits & ((1L << from) - 1));
        return x.pattern(7);
    }

    private static void take() {
        String rule = "Place r has width n from now on, and becomes the value at p.";
        Sentences.test("P5", rule, () -> {
            for (int from = 3; from <= 32; from++) {
                for (int to = 3; to <= 32; to++) {
                    long most = (1L << (to - 1)) - 1;
                    Sentences.due("0", taken(from, 0, to), 0);
                    Sentences.due("NaR", taken(from, 1 << (from - 1), to), most + 1);
                    Sentences.due("1", taken(from, 1 << (from - 2), to), 1L << (to - 2));
                    int greatest = (1 << (from - 1)) - 1;
                    Sentences.due("least", taken(from, 1, to), to <= from ? 1 : 1L << (to - from));
                    long grown = to <= from ? most : (long) greatest << (to - from);
                    Sentences.due("greatest", taken(from, greatest, to), grown);
                    Sentences.due("-greatest", taken(from, -greatest, to), 2 * most + 2 - grown);
                }
            }
        });
        Sentences.test("P5", rule, () -> {
            PositHouse x = new PositHouse();
            x.set(3, 16, 0x4ABC);
            x.take(3, 3, 32);
            Sentences.due("wider in its own place", x.pattern(3), 0x4ABC0000L);
            x.take(3, 3, 16);
            Sentences.due("and back", x.pattern(3), 0x4ABC);
            x.take(3, 3, 8);
            Sentences.due("narrower in its own place", x.pattern(3), 0x4B);
            Sentences.due("its width", x.width(3), 8);
        });
        Sentences.test("P5", rule, () -> {
            Sentences.due("below the bound", taken(16, 0x407F, 8), 0x40);
            Sentences.due("at the bound, even one below", taken(16, 0x4080, 8), 0x40);
            Sentences.due("above the bound", taken(16, 0x4081, 8), 0x41);
            Sentences.due("at the bound, even one above", taken(16, 0x4180, 8), 0x42);
            Sentences.due("-, at the bound", taken(16, 0xBE80, 8), 0xBE);
        });
        Sentences.test("P5", "IllegalArgumentException: n isn't 3 .. 32.", () -> {
            PositHouse x = Houses.of(8, 0x40);
            x.take(0, 1, 3);
            x.take(0, 2, 32);
            Sentences.due("the least width and the greatest one", x.width(1) * 100 + x.width(2), 332);
            for (int n : NO_WIDTH) {
                Houses.refused("take of width " + n, Houses.ARGUMENT, h -> h.take(0, 1, n));
                Houses.refused("take of NaR of width " + n, Houses.ARGUMENT, h -> h.take(2, 2, n));
            }
            for (int none : Houses.NO_PLACE) {
                Houses.refused("take from " + none, Houses.INDEX, h -> h.take(none, 0, 8));
                Houses.refused("take to " + none, Houses.INDEX, h -> h.take(0, none, 8));
                Houses.refused("take from " + none + ", no width", Houses.INDEX, h -> h.take(none, 0, 2));
                Houses.refused("take to " + none + ", no width", Houses.INDEX, h -> h.take(0, none, 33));
            }
        });
    }

    private static long ratioOf(int n, long a, long b) {
        return Houses.becomes(n, 5, 0, 0, x -> x.ratio(9, a, b));
    }

    private static void ratio() {
        String rule = "Place r becomes a / b (NaR if b is 0).";
        Sentences.test("P6", rule, () -> {
            for (int n = 3; n <= 32; n++) {
                for (long a : new long[] {0, 1, -1, Long.MIN_VALUE, Long.MAX_VALUE}) {
                    Sentences.due(a + " / 0", ratioOf(n, a, 0), 1L << (n - 1));
                }
                for (long b : new long[] {1, -1, Long.MIN_VALUE, Long.MAX_VALUE}) {
                    Sentences.due("0 / " + b, ratioOf(n, 0, b), 0);
                    Sentences.due(b + " / " + b, ratioOf(n, b, b), 1L << (n - 2));
                    if (b != Long.MIN_VALUE) {
                        Sentences.due(b + " / " + -b, ratioOf(n, b, -b), 3L << (n - 2));
                    }
                }
            }
        });
        Sentences.test("P6", rule, () -> {
            Sentences.due("-2^63 / 1", ratioOf(32, Long.MIN_VALUE, 1), 0x80005000L);
            Sentences.due("-2^63 / -1", ratioOf(32, Long.MIN_VALUE, -1), 0x7FFFB000L);
            Sentences.due("2^63 - 1, nearly 2^63", ratioOf(32, Long.MAX_VALUE, 1), 0x7FFFB000L);
            Sentences.due("1 / -2^63", ratioOf(32, 1, Long.MIN_VALUE), 0xFFFFB000L);
            Sentences.due("-1 / -2^63", ratioOf(32, -1, Long.MIN_VALUE), 0x5000);
            Sentences.due("greatest / least", ratioOf(32, Long.MAX_VALUE, Long.MIN_VALUE), 0xC0000000L);
        });
        Sentences.test("P6", rule, () -> {
            Sentences.due("4 of width 3", ratioOf(3, 4, 1), 2);
            Sentences.due("above 4", ratioOf(3, Long.MAX_VALUE, Long.MAX_VALUE / 4), 3);
            Sentences.due("a last bit above 4", ratioOf(3, (1L << 62) + 1, 1L << 60), 3);
            Sentences.due("a last bit below 4", ratioOf(3, (1L << 62) - 1, 1L << 60), 2);
            Sentences.due("1/4", ratioOf(3, 1, 4), 2);
            Sentences.due("a last bit below 1/4", ratioOf(3, 1L << 60, (1L << 62) + 1), 1);
            Sentences.due("a last bit above 1/4", ratioOf(3, 1L << 60, (1L << 62) - 1), 2);
            Sentences.due("-4", ratioOf(3, -4, 1), 6);
            Sentences.due("below -4", ratioOf(3, -(1L << 62) - 1, 1L << 60), 5);
            Sentences.due("1/16", ratioOf(3, 1, 16), 1);
            Sentences.due("less than 1/16", ratioOf(3, 1, Long.MAX_VALUE), 1);
            Sentences.due("16", ratioOf(3, -16, -1), 3);
            Sentences.due("more than 16", ratioOf(3, Long.MIN_VALUE, -1), 3);
        });
        Sentences.test("P6", rule, () -> {
            for (int none : Houses.NO_PLACE) {
                Houses.refused("ratio at " + none, Houses.INDEX, h -> h.ratio(none, 1, 2));
                Houses.refused("ratio at " + none + " by 0", Houses.INDEX, h -> h.ratio(none, 1, 0));
            }
        });
    }

    private static void wholeIs(String what, int n, int bits, long want) {
        PositHouse x = Houses.of(n, bits);
        Sentences.due("whole of " + what, x.whole(0), want);
        Sentences.due("pattern after whole of " + what, x.pattern(0), bits & ((1L << n) - 1));
    }

    private static void noWhole(String what, int n, int bits) {
        PositHouse x = Houses.of(n, bits);
        Sentences.due("whole of " + what, Houses.thrown(x, h -> h.whole(0)), Houses.ARITHMETIC.getName());
        Sentences.due("pattern after whole of " + what, x.pattern(0), bits & ((1L << n) - 1));
        Sentences.due("width after whole of " + what, x.width(0), n);
    }

    private static void whole() {
        Sentences.test("P7", "The whole number nearest to p's value (of two the even one).", () -> {
            wholeIs("0", 32, 0, 0);
            wholeIs("1/2", 32, Houses.HALF, 0);
            wholeIs("a little above 1/2", 32, Houses.HALF + 1, 1);
            wholeIs("a little below 1/2", 32, Houses.HALF - 1, 0);
            wholeIs("-1/2", 32, -Houses.HALF, 0);
            wholeIs("a little below -1/2", 32, -Houses.HALF - 1, -1);
            wholeIs("3/2", 8, 0x44, 2);
            wholeIs("-3/2", 8, -0x44, -2);
            wholeIs("5/2", 8, 0x4A, 2);
            wholeIs("-5/2", 8, -0x4A, -2);
            wholeIs("a little above 5/2", 32, 0x4A000001, 3);
            wholeIs("a little below 3/2", 32, 0x43FFFFFF, 1);
            wholeIs("4194303.5", 32, 0x7E7FFFFF, 4194304);
            wholeIs("4194302.5", 32, 0x7E7FFFFD, 4194302);
            wholeIs("-4194303.5", 32, -0x7E7FFFFF, -4194304);
            wholeIs("8388607", 32, 0x7EBFFFFF, 8388607);
            wholeIs("the least", 32, Houses.LEAST, 0);
            wholeIs("minus the least", 32, -Houses.LEAST, 0);
            wholeIs("1/16 of width 3", 3, 1, 0);
            wholeIs("16 of width 3", 3, 3, 16);
            wholeIs("-16 of width 3", 3, 5, -16);
        });
        String none = "ArithmeticException: it is NaR, or that number is no long.";
        Sentences.test("P7", none, () -> {
            wholeIs("the last ahead of 2^63", 32, 0x7FFFAFFF, Long.MAX_VALUE - (1L << 50) + 1);
            noWhole("2^63", 32, 0x7FFFB000);
            noWhole("the first behind 2^63", 32, 0x7FFFB001);
            wholeIs("the last behind -2^63", 32, -0x7FFFAFFF, Long.MIN_VALUE + (1L << 50));
            wholeIs("-2^63", 32, -0x7FFFB000, Long.MIN_VALUE);
            noWhole("the first below -2^63", 32, -0x7FFFB001);
            noWhole("the greatest", 32, Houses.GREATEST);
            noWhole("minus the greatest", 32, -Houses.GREATEST);
        });
        Sentences.test("P7", none, () -> {
            wholeIs("2^60, the greatest of width 17", 17, 0xFFFF, 1L << 60);
            wholeIs("-2^60", 17, -0xFFFF, -1L << 60);
            noWhole("2^64, the greatest of width 18", 18, 0x1FFFF);
            noWhole("-2^64", 18, -0x1FFFF);
            wholeIs("2^60, the one ahead of it", 18, 0x1FFFE, 1L << 60);
            for (int n = 3; n <= 32; n++) {
                noWhole("NaR of width " + n, n, 1 << (n - 1));
            }
        });
        Sentences.test("P7", none, () -> {
            Houses.refused("whole of NaR", Houses.ARITHMETIC, h -> h.whole(2));
            for (int place : Houses.NO_PLACE) {
                Houses.refused("whole of " + place, Houses.INDEX, h -> h.whole(place));
            }
        });
    }

    private static void order() {
        Sentences.test("P8", "How the values at p and q stand: -1 p's is below, 0 they are the same, 1 above;", () -> {
            PositHouse x = Houses.of(32, Houses.ONE, Houses.ONE + 1, -Houses.ONE, -Houses.ONE - 1, 0, 1, -1);
            int[] rising = {3, 2, 6, 4, 5, 0, 1};
            for (int i = 0; i < rising.length; i++) {
                for (int j = 0; j < rising.length; j++) {
                    Sentences.due("order " + i + " " + j, x.order(rising[i], rising[j]), Integer.compare(i, j));
                }
            }
        });
        Sentences.test("P8", "How the values at p and q stand: -1 p's is below, 0 they are the same, 1 above;", () -> {
            for (int n = 3; n < 32; n++) {
                PositHouse x = new PositHouse();
                for (int u : new int[] {1, 2, (1 << (n - 1)) - 1, -1, 1 - (1 << (n - 1)), 0}) {
                    x.set(0, n, u);
                    x.set(1, 32, u << (32 - n));
                    Sentences.due("the same value of widths " + n + " and 32", x.order(0, 1), 0);
                    x.set(1, 32, (u << (32 - n)) + 1);
                    Sentences.due("a little above", x.order(0, 1), -1);
                    x.set(1, 32, (u << (32 - n)) - 1);
                    Sentences.due("a little below", x.order(0, 1), 1);
                }
            }
        });
        Sentences.test("P8", "NaR is below all others, and the same as itself.", () -> {
            for (int n = 3; n <= 32; n++) {
                PositHouse x = new PositHouse();
                x.set(0, n, 1 << (n - 1));
                x.set(1, 35 - n, 1 << (34 - n));
                Sentences.due("two NaR", x.order(0, 1), 0);
                Sentences.due("one NaR", x.order(0, 0), 0);
                for (int bits : new int[] {-Houses.GREATEST, -1, 0, 1, Houses.GREATEST}) {
                    x.set(2, 32, bits);
                    Sentences.due("NaR and " + bits, x.order(0, 2), -1);
                    Sentences.due(bits + " and NaR", x.order(2, 0), 1);
                }
            }
            for (int none : Houses.NO_PLACE) {
                Houses.refused("order of " + none, Houses.INDEX, h -> h.order(none, 2));
                Houses.refused("order with " + none, Houses.INDEX, h -> h.order(2, none));
            }
        });
    }
}
