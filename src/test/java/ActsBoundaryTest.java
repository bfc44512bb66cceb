import java.io.IOException;

/**
 * The sentences of promises 9 to 18. Width 3 has 1/16, 1 and 16 (patterns 1, 2, 3); 1/4 and 4 lie where its roundings
 * part, so that numbers of width 32 at these and beside them show how an act rounds.
 */
public final class ActsBoundaryTest {
    private static final int NAR3 = 4;
    private static final int NAR8 = 0x80;

    public static void main(String[] args) throws IOException {
        Sentences.open();
        add();
        less();
        times();
        over();
        fused();
        root();
        under();
        far();
        power();
        turn();
        Sentences.close("P9", "P10", "P11", "P12", "P13", "P14", "P15", "P16", "P17", "P18");
    }

    private static void nars(Houses.Act act) {
        for (int other : new int[] {0, Houses.ONE, -Houses.ONE, Houses.GREATEST, Houses.NAR}) {
            Sentences.due("p NaR, q " + other, Houses.small(Houses.NAR, other, act), NAR3);
            Sentences.due("q NaR, p " + other, Houses.small(other, Houses.NAR, act), NAR3);
        }
    }

    private static long wide(int a, int b, Houses.Act act) {
        return Houses.becomes(32, 5, a, b, x -> act.on(x, 0, 1, 9));
    }

    private static void add() {
        String rule = "Place r becomes p's and q's sum.";
        Houses.Act add = PositHouse::add;
        Sentences.test("P9", rule, () -> {
            Sentences.due("0 + 0", Houses.small(0, 0, add), 0);
            Sentences.due("1 + -1", Houses.small(Houses.ONE, -Houses.ONE, add), 0);
            Sentences.due("the greatest and its minus", wide(Houses.GREATEST, -Houses.GREATEST, add), 0);
            Sentences.due("twice the greatest", wide(Houses.GREATEST, Houses.GREATEST, add), Houses.GREATEST);
            Sentences.due("twice minus the greatest", wide(-Houses.GREATEST, -Houses.GREATEST, add), 0x80000001L);
            Sentences.due("twice the least", wide(Houses.LEAST, Houses.LEAST, add), 1);
            Sentences.due("twice minus the least", wide(-Houses.LEAST, -Houses.LEAST, add), 0xFFFFFFFFL);
            Sentences.due("0 + the least", wide(0, Houses.LEAST, add), 1);
            Sentences.due("the greatest + the least", wide(Houses.GREATEST, Houses.LEAST, add), Houses.GREATEST);
        });
        Sentences.test("P9", rule, () -> {
            Sentences.due("4", Houses.small(Houses.FOUR, 0, add), 2);
            Sentences.due("3 + 1", Houses.small(Houses.THREE, Houses.ONE, add), 2);
            Sentences.due("4 + 2^-120", Houses.small(Houses.FOUR, Houses.LEAST, add), 3);
            Sentences.due("4 - 2^-120", Houses.small(Houses.FOUR, -Houses.LEAST, add), 2);
            Sentences.due("-4 - 2^-120", Houses.small(-Houses.FOUR, -Houses.LEAST, add), 5);
            Sentences.due("-4", Houses.small(-Houses.FOUR, 0, add), 6);
            Sentences.due("1/4", Houses.small(Houses.QUARTER, 0, add), 2);
            Sentences.due("1/4 - 2^-120", Houses.small(Houses.QUARTER, -Houses.LEAST, add), 1);
            Sentences.due("2^120 - the one ahead of it", wide(Houses.GREATEST, 1 - Houses.GREATEST, add),
                Oracle.round(Oracle.value(0x7FFFFFFF, 32).minus(Oracle.value(0x7FFFFFFE, 32)), 32));
        });
        Sentences.test("P9", rule, () -> {
            nars(add);
            Houses.refusedPlaces("add", add);
        });
    }

    private static void less() {
        String rule = "Place r becomes p's less q's.";
        Houses.Act less = PositHouse::less;
        Sentences.test("P10", rule, () -> {
            Sentences.due("0 - 0", Houses.small(0, 0, less), 0);
            Sentences.due("1 - 1", Houses.small(Houses.ONE, Houses.ONE, less), 0);
            Sentences.due("1 - 2", wide(Houses.ONE, Houses.TWO, less), 0xC0000000L);
            Sentences.due("2 - 1", wide(Houses.TWO, Houses.ONE, less), Houses.ONE);
            Sentences.due("0 - 1", wide(0, Houses.ONE, less), 0xC0000000L);
            Sentences.due("the greatest less its minus", wide(Houses.GREATEST, -Houses.GREATEST, less), Houses.GREATEST);
            Sentences.due("its minus less it", wide(-Houses.GREATEST, Houses.GREATEST, less), 0x80000001L);
            Sentences.due("2 steps of the least less 1", wide(2, 1, less), 2);
            Sentences.due("the least less its minus", wide(1, -1, less), 1);
        });
        Sentences.test("P10", rule, () -> {
            Sentences.due("4 - 0", Houses.small(Houses.FOUR, 0, less), 2);
            Sentences.due("4 - 2^-120", Houses.small(Houses.FOUR, Houses.LEAST, less), 2);
            Sentences.due("4 + 2^-120", Houses.small(Houses.FOUR, -Houses.LEAST, less), 3);
            Sentences.due("0 - 4", Houses.small(0, Houses.FOUR, less), 6);
            Sentences.due("-4 - 2^-120", Houses.small(-Houses.FOUR, Houses.LEAST, less), 5);
            Sentences.due("1/4 - 2^-120", Houses.small(Houses.QUARTER, Houses.LEAST, less), 1);
            Sentences.due("1/4 + 2^-120", Houses.small(Houses.QUARTER, -Houses.LEAST, less), 2);
        });
        Sentences.test("P10", rule, () -> {
            nars(less);
            Houses.refusedPlaces("less", less);
        });
    }

    private static void times() {
        String rule = "Place r becomes their product.";
        Houses.Act times = PositHouse::times;
        Sentences.test("P11", rule, () -> {
            Sentences.due("0 * the greatest", wide(0, Houses.GREATEST, times), 0);
            Sentences.due("minus the least * 0", wide(-Houses.LEAST, 0, times), 0);
            Sentences.due("the least by itself", wide(Houses.LEAST, Houses.LEAST, times), 1);
            Sentences.due("the least by its minus", wide(Houses.LEAST, -Houses.LEAST, times), 0xFFFFFFFFL);
            Sentences.due("the greatest by itself", wide(Houses.GREATEST, Houses.GREATEST, times), Houses.GREATEST);
            Sentences.due("the greatest by its minus", wide(Houses.GREATEST, -Houses.GREATEST, times), 0x80000001L);
            Sentences.due("the least by the greatest", wide(Houses.LEAST, Houses.GREATEST, times), Houses.ONE);
            Sentences.due("-1 * -1", wide(-Houses.ONE, -Houses.ONE, times), Houses.ONE);
        });
        Sentences.test("P11", rule, () -> {
            Sentences.due("2 * 2", Houses.small(Houses.TWO, Houses.TWO, times), 2);
            Sentences.due("a little above 2 * 2", Houses.small(Houses.TWO, Houses.TWO + 1, times), 3);
            Sentences.due("a little below 2 * 2", Houses.small(Houses.TWO, Houses.TWO - 1, times), 2);
            Sentences.due("-2 * 2", Houses.small(-Houses.TWO, Houses.TWO, times), 6);
            Sentences.due("a little below -2 * 2", Houses.small(-Houses.TWO - 1, Houses.TWO, times), 5);
            Sentences.due("1/2 * 1/2", Houses.small(Houses.HALF, Houses.HALF, times), 2);
            Sentences.due("a little below 1/2 * 1/2", Houses.small(Houses.HALF - 1, Houses.HALF, times), 1);
            Sentences.due("(1 + 2^-27)^2", wide(Houses.ONE + 1, Houses.ONE + 1, times), Houses.ONE + 2);
            Sentences.due("(2 - 2^-27)^2", wide(Houses.TWO - 1, Houses.TWO - 1, times), Houses.FOUR - 2);
        });
        Sentences.test("P11", rule, () -> {
            nars(times);
            Houses.refusedPlaces("times", times);
        });
    }

    private static void over() {
        String rule = "Place r becomes p's divided by q's (NaR if that is 0).";
        Houses.Act over = PositHouse::over;
        Sentences.test("P12", rule, () -> {
            for (int p : new int[] {0, 1, -1, Houses.ONE, -Houses.ONE, Houses.GREATEST, -Houses.GREATEST, Houses.NAR}) {
                Sentences.due(p + " by 0", wide(p, 0, over), 0x80000000L);
                Sentences.due(p + " by 0, of width 3", Houses.small(p, 0, over), NAR3);
            }
            Sentences.due("by the least", wide(Houses.LEAST, Houses.LEAST, over), Houses.ONE);
            Sentences.due("by minus the least", wide(Houses.LEAST, -Houses.LEAST, over), 0xC0000000L);
        });
        Sentences.test("P12", rule, () -> {
            Sentences.due("0 by the least", wide(0, Houses.LEAST, over), 0);
            Sentences.due("0 by minus the greatest", wide(0, -Houses.GREATEST, over), 0);
            Sentences.due("the greatest by the least", wide(Houses.GREATEST, Houses.LEAST, over), Houses.GREATEST);
            Sentences.due("the least by the greatest", wide(Houses.LEAST, Houses.GREATEST, over), 1);
            Sentences.due("the least by minus the greatest", wide(Houses.LEAST, -Houses.GREATEST, over), 0xFFFFFFFFL);
            Sentences.due("1 by 3", wide(Houses.ONE, Houses.THREE, over), 850045611);
        });
        Sentences.test("P12", rule, () -> {
            Sentences.due("4 by 1", Houses.small(Houses.FOUR, Houses.ONE, over), 2);
            Sentences.due("a little more than 4 by 1", Houses.small(Houses.FOUR + 1, Houses.ONE, over), 3);
            Sentences.due("4 by a little more than 1", Houses.small(Houses.FOUR, Houses.ONE + 1, over), 2);
            Sentences.due("4 by a little less than 1", Houses.small(Houses.FOUR, Houses.ONE - 1, over), 3);
            Sentences.due("-4 by 1", Houses.small(-Houses.FOUR, Houses.ONE, over), 6);
            Sentences.due("4 by -1 and a little", Houses.small(Houses.FOUR, 1 - Houses.ONE, over), 5);
            Sentences.due("1 by 4", Houses.small(Houses.ONE, Houses.FOUR, over), 2);
            Sentences.due("1 by a little more than 4", Houses.small(Houses.ONE, Houses.FOUR + 1, over), 1);
        });
        Sentences.test("P12", rule, () -> {
            nars(over);
            Houses.refusedPlaces("over", over);
        });
    }

    private static long fusedTo(int n, int old, int a, int b) {
        return Houses.becomes(n, old, a, b, x -> x.fused(0, 1, 9));
    }

    private static void fused() {
        String rule = "Place r becomes p's times q's and what r was, rounded once.";
        Sentences.test("P13", rule, () -> {
            Sentences.due("0 * 0 + 0", fusedTo(32, 0, 0, 0), 0);
            Sentences.due("0 * 5 + 1", fusedTo(32, Houses.ONE, 0, Houses.FOUR), Houses.ONE);
            Sentences.due("2 * 2 - 4", fusedTo(32, -Houses.FOUR, Houses.TWO, Houses.TWO), 0);
            Sentences.due("-2 * 2 + 4", fusedTo(32, Houses.FOUR, -Houses.TWO, Houses.TWO), 0);
            Sentences.due("2^240 - 2^120", fusedTo(32, -Houses.GREATEST, Houses.GREATEST, Houses.GREATEST), Houses.GREATEST);
            Sentences.due("-2^240 + 2^120", fusedTo(32, Houses.GREATEST, Houses.GREATEST, -Houses.GREATEST), 0x80000001L);
            Sentences.due("2^-240 + 0", fusedTo(32, 0, Houses.LEAST, Houses.LEAST), 1);
            Sentences.due("-2^-240 + 0", fusedTo(32, 0, Houses.LEAST, -Houses.LEAST), 0xFFFFFFFFL);
            Sentences.due("2^-240 + 2^-120", fusedTo(32, Houses.LEAST, Houses.LEAST, Houses.LEAST), 1);
        });
        Sentences.test("P13", rule, () -> {
            PositHouse x = Houses.of(32, Houses.ONE + 1, Houses.ONE + 1, -Houses.ONE - 2);
            x.ratio(3, 1, 1L << 54);
            x.fused(0, 1, 2);
            Sentences.due("(1 + e)^2 - 1 - 2 e is e^2", x.pattern(2), x.pattern(3));
        });
        Sentences.test("P13", rule, () -> {
            Sentences.due("3 * 1 + 1, of width 3", fusedTo(3, 2, Houses.THREE, Houses.ONE), 2);
            Sentences.due("a little more", fusedTo(3, 2, Houses.THREE, Houses.ONE + 1), 3);
            Sentences.due("-3 * 1 - 1", fusedTo(3, 6, -Houses.THREE, Houses.ONE), 6);
            Sentences.due("-12 * 1 + 16", fusedTo(3, 3, -0x5C000000, Houses.ONE), 2);
            Sentences.due("a little less than 12", fusedTo(3, 3, -0x5C000000, Houses.ONE - 1), 3);
            Sentences.due("1 and a 2^-240", fusedTo(3, 2, Houses.LEAST, Houses.LEAST), 2);
        });
        Sentences.test("P13", rule, () -> {
            Sentences.due("what r was is NaR", fusedTo(8, NAR8, Houses.ONE, Houses.ONE), NAR8);
            Sentences.due("what r was is NaR, by 0", fusedTo(8, NAR8, 0, 0), NAR8);
            nars(PositHouse::fused);
            Houses.refusedPlaces("fused", PositHouse::fused);
        });
    }

    private static long rootTo3(int bits, int k) {
        return Houses.becomes(3, 5, bits, 0, x -> x.root(0, k, 9));
    }

    private static void root() {
        Sentences.test("P14", "Place r becomes the k-th root of p's:", () -> {
            for (int k = 1; k <= 8; k++) {
                PositHouse x = Houses.of(32, Houses.FOUR);
                x.power(0, k, 1);
                x.power(0, -k, 2);
                int above = (int) x.pattern(1);
                int below = (int) x.pattern(2);
                Sentences.due("4, root " + k, rootTo3(above, k), 2);
                Sentences.due("a little above 4, root " + k, rootTo3(above + 1, k), 3);
                Sentences.due("a little below 4, root " + k, rootTo3(above - 1, k), 2);
                Sentences.due("1/4, root " + k, rootTo3(below, k), 2);
                Sentences.due("a little above 1/4, root " + k, rootTo3(below + 1, k), 2);
                Sentences.due("a little below 1/4, root " + k, rootTo3(below - 1, k), 1);
            }
        });
        Sentences.test("P14", "Place r becomes the k-th root of p's:", () -> {
            for (int k = 1; k <= 8; k++) {
                int root = k;
                Sentences.due("root of 0", Houses.becomes(32, 5, 0, 0, x -> x.root(0, root, 9)), 0);
                Sentences.due("root of 1", Houses.becomes(32, 5, Houses.ONE, 0, x -> x.root(0, root, 9)), Houses.ONE);
                Sentences.due("root of NaR", rootTo3(Houses.NAR, k), NAR3);
                for (int bits : new int[] {Houses.GREATEST, Houses.GREATEST - 1, Houses.LEAST, 2, 3, Houses.ONE + 1,
                    Houses.ONE - 1, Houses.TWO}) {
                    Sentences.due("root " + k + " of " + bits, Houses.becomes(32, 5, bits, 0, x -> x.root(0, root, 9)),
                        Oracle.root(Oracle.value(bits, 32), k, 32));
                }
            }
        });
        Sentences.test("P14", "of one below 0 NaR if k is even, else minus the root of minus it.", () -> {
            for (int k = 1; k <= 8; k++) {
                for (int bits : new int[] {Houses.LEAST, Houses.ONE, Houses.TWO, Houses.GREATEST}) {
                    long plus = rootTo3(bits, k);
                    Sentences.due("root " + k + " of minus", rootTo3(-bits, k), k % 2 == 0 ? NAR3 : 8 - plus);
                }
            }
            Sentences.due("3rd root of -64, between -1 and -16", rootTo3(-0x68000000, 3), 6);
            Sentences.due("3rd root of a little less", rootTo3(-0x68000001, 3), 5);
        });
        Sentences.test("P14", "IllegalArgumentException: k isn't 1 .. 8.", () -> {
            Sentences.due("the first root", rootTo3(Houses.SIXTEEN, 1), 3);
            Sentences.due("the 8th root", rootTo3(0x7C000000, 8), 2);
            for (int k : new int[] {0, 9, -1, -2, 16, Integer.MIN_VALUE, Integer.MAX_VALUE}) {
                Houses.refused("root " + k, Houses.ARGUMENT, x -> x.root(0, k, 1));
                Houses.refused("root " + k + " of NaR", Houses.ARGUMENT, x -> x.root(2, k, 2));
            }
            for (int none : Houses.NO_PLACE) {
                Houses.refused("root of " + none, Houses.INDEX, x -> x.root(none, 2, 0));
                Houses.refused("root to " + none, Houses.INDEX, x -> x.root(0, 2, none));
                Houses.refused("no root of " + none, Houses.INDEX, x -> x.root(none, 0, 0));
                Houses.refused("no root to " + none, Houses.INDEX, x -> x.root(0, 9, none));
            }
        });
    }

    private static long underTo(int n, int bits) {
        return Houses.becomes(n, 5, bits, 0, x -> x.under(0, 9));
    }

    private static void under() {
        Sentences.test("P15", "Place r becomes 1 divided by the square root of p's;", () -> {
            Sentences.due("of 1", underTo(32, Houses.ONE), Houses.ONE);
            Sentences.due("of the least", underTo(32, Houses.LEAST), Oracle.under(Oracle.value(1, 32), 32));
            Sentences.due("of the greatest", underTo(32, Houses.GREATEST), Oracle.under(Oracle.value(0x7FFFFFFF, 32), 32));
            Sentences.due("of the least, of width 3", underTo(3, Houses.LEAST), 3);
            Sentences.due("of the greatest, of width 3", underTo(3, Houses.GREATEST), 1);
            Sentences.due("of 1/16", underTo(3, Houses.SIXTEENTH), 2);
            Sentences.due("of a little less", underTo(3, Houses.SIXTEENTH - 1), 3);
            Sentences.due("of a little more", underTo(3, Houses.SIXTEENTH + 1), 2);
            Sentences.due("of 16", underTo(3, Houses.SIXTEEN), 2);
            Sentences.due("of a little more than 16", underTo(3, Houses.SIXTEEN + 1), 1);
            Sentences.due("of a little less than 16", underTo(3, Houses.SIXTEEN - 1), 2);
        });
        Sentences.test("P15", "NaR if that isn't above 0.", () -> {
            for (int bits : new int[] {0, -Houses.LEAST, -Houses.ONE, -Houses.GREATEST, Houses.NAR}) {
                Sentences.due("under " + bits, underTo(32, bits), 0x80000000L);
                Sentences.due("under " + bits + ", of width 3", underTo(3, bits), NAR3);
            }
            for (int none : Houses.NO_PLACE) {
                Houses.refused("under " + none, Houses.INDEX, x -> x.under(none, 2));
                Houses.refused("under to " + none, Houses.INDEX, x -> x.under(2, none));
            }
        });
    }

    private static void far() {
        String rule = "Place r becomes the square root of the sum of both squares.";
        Houses.Act far = PositHouse::far;
        Sentences.test("P16", rule, () -> {
            Sentences.due("0 and 0", wide(0, 0, far), 0);
            Sentences.due("0 and -1", wide(0, -Houses.ONE, far), Houses.ONE);
            Sentences.due("-3 and -4", wide(-Houses.THREE, -Houses.FOUR, far), 0x52000000);
            Sentences.due("twice the greatest", wide(Houses.GREATEST, Houses.GREATEST, far), Houses.GREATEST);
            Sentences.due("twice minus the greatest", wide(-Houses.GREATEST, -Houses.GREATEST, far), Houses.GREATEST);
            Sentences.due("twice the least", wide(Houses.LEAST, Houses.LEAST, far), 1);
            Sentences.due("the least and 0", wide(0, -Houses.LEAST, far), 1);
            Sentences.due("1 and 1", wide(Houses.ONE, Houses.ONE, far), 1129336627);
        });
        Sentences.test("P16", rule, () -> {
            Sentences.due("4 and 0", Houses.small(Houses.FOUR, 0, far), 2);
            Sentences.due("4 and 2^-120", Houses.small(Houses.FOUR, Houses.LEAST, far), 3);
            Sentences.due("2^-120 and -4", Houses.small(Houses.LEAST, -Houses.FOUR, far), 3);
            Sentences.due("a little below 4", Houses.small(Houses.FOUR - 1, 0, far), 2);
            Sentences.due("a little below 4 and 2^-120", Houses.small(Houses.FOUR - 1, Houses.LEAST, far), 2);
            Sentences.due("1/4 and 0", Houses.small(0, -Houses.QUARTER, far), 2);
            Sentences.due("a little below 1/4", Houses.small(0, Houses.QUARTER - 1, far), 1);
            Sentences.due("2^120 and 2^-120", wide(Houses.GREATEST, Houses.LEAST, far), Houses.GREATEST);
        });
        Sentences.test("P16", rule, () -> {
            nars(far);
            Houses.refusedPlaces("far", far);
        });
    }

    private static long powerTo(int n, int bits, int k) {
        return Houses.becomes(n, 5, bits, 0, x -> x.power(0, k, 9));
    }

    private static void power() {
        String rule = "Place r becomes p's to the power k (of k 0 it is 1, also of 0);";
        Sentences.test("P17", rule, () -> {
            for (int bits : new int[] {0, 1, -1, Houses.TWO, -Houses.TWO, Houses.GREATEST, -Houses.GREATEST}) {
                Sentences.due(bits + " to the power 0", powerTo(32, bits, 0), Houses.ONE);
                Sentences.due(bits + " to the power 0, of width 3", powerTo(3, bits, 0), 2);
            }
            Sentences.due("NaR to the power 0", powerTo(3, Houses.NAR, 0), NAR3);
        });
        Sentences.test("P17", rule, () -> {
            for (int k = -16; k <= 16; k++) {
                int times = k;
                boolean minus = k % 2 != 0;
                Sentences.due("1, " + k, powerTo(32, Houses.ONE, k), Houses.ONE);
                Sentences.due("-1, " + k, powerTo(32, -Houses.ONE, k), minus ? 0xC0000000L : Houses.ONE);
                Sentences.due("NaR, " + k, powerTo(32, Houses.NAR, k), 0x80000000L);
                for (int bits : new int[] {Houses.ONE + 1, Houses.ONE - 1, -Houses.THREE, 0x47FFFFFF, 2, -2,
                    Houses.GREATEST, -Houses.GREATEST, -1, 1}) {
                    Sentences.due(bits + ", " + k, Houses.becomes(32, 5, bits, 0, x -> x.power(0, times, 9)),
                        Oracle.power(Oracle.value(bits & 0xFFFFFFFFL, 32), k, 32));
                }
            }
        });
        Sentences.test("P17", rule, () -> {
            Sentences.due("2^2", powerTo(3, Houses.TWO, 2), 2);
            Sentences.due("a little more", powerTo(3, Houses.TWO + 1, 2), 3);
            Sentences.due("a little less", powerTo(3, Houses.TWO - 1, 2), 2);
            Sentences.due("(-2)^2", powerTo(3, -Houses.TWO, 2), 2);
            Sentences.due("2^-2", powerTo(3, Houses.TWO, -2), 2);
            Sentences.due("a little more, -2", powerTo(3, Houses.TWO + 1, -2), 1);
            Sentences.due("a little less, -2", powerTo(3, Houses.TWO - 1, -2), 2);
            Sentences.due("-4, 1", powerTo(3, -Houses.FOUR, 1), 6);
            Sentences.due("a little less, 1", powerTo(3, -Houses.FOUR - 1, 1), 5);
            Sentences.due("-1/4, -1", powerTo(3, -Houses.QUARTER, -1), 6);
            Sentences.due("2^16, of width 3", powerTo(3, Houses.TWO, 16), 3);
            Sentences.due("2^-16, of width 3", powerTo(3, Houses.TWO, -16), 1);
        });
        Sentences.test("P17", "NaR for 0 with k below 0.", () -> {
            for (int k = 1; k <= 16; k++) {
                Sentences.due("0 to the power -" + k, powerTo(3, 0, -k), NAR3);
                Sentences.due("0 to the power " + k, powerTo(3, 0, k), 0);
            }
            Sentences.due("the least to the power -1", powerTo(32, Houses.LEAST, -1), Houses.GREATEST);
        });
        Sentences.test("P17", "IllegalArgumentException: k isn't -16 .. 16.", () -> {
            Sentences.due("2^16", powerTo(32, Houses.TWO, 16), 0x7C000000);
            Sentences.due("2^-16", powerTo(32, Houses.TWO, -16), 0x04000000);
            for (int k : new int[] {17, -17, 32, Integer.MIN_VALUE, Integer.MAX_VALUE}) {
                Houses.refused("power " + k, Houses.ARGUMENT, x -> x.power(0, k, 1));
                Houses.refused("power " + k + " of NaR", Houses.ARGUMENT, x -> x.power(2, k, 2));
            }
            for (int none : Houses.NO_PLACE) {
                Houses.refused("power of " + none, Houses.INDEX, x -> x.power(none, 2, 0));
                Houses.refused("power to " + none, Houses.INDEX, x -> x.power(0, 2, none));
                Houses.refused("no power of " + none, Houses.INDEX, x -> x.power(none, 17, 0));
                Houses.refused("no power to " + none, Houses.INDEX, x -> x.power(0, -17, none));
            }
        });
    }

    private static void turns(int how, int n, int bits, long want) {
        PositHouse x = Houses.of(n, bits);
        x.turn(0, how);
        Sentences.due(bits + "/" + n + " turned by " + how, x.pattern(0), want);
        Sentences.due("its width", x.width(0), n);
    }

    private static void turn() {
        Sentences.test("P18", "Place r changes: how 0: it becomes minus it;", () -> {
            for (int n = 3; n <= 32; n++) {
                long most = (1L << (n - 1)) - 1;
                turns(0, n, 0, 0);
                turns(0, n, 1, 2 * most + 1);
                turns(0, n, -1, 1);
                turns(0, n, (int) most, most + 2);
                turns(0, n, (int) most + 2, most);
                turns(0, n, (int) most + 1, most + 1);
            }
        });
        Sentences.test("P18", "1: it without its sign;", () -> {
            for (int n = 3; n <= 32; n++) {
                long most = (1L << (n - 1)) - 1;
                turns(1, n, 0, 0);
                turns(1, n, 1, 1);
                turns(1, n, -1, 1);
                turns(1, n, (int) most, most);
                turns(1, n, (int) most + 2, most);
                turns(1, n, (int) most + 1, most + 1);
            }
        });
        Sentences.test("P18", "2: 1 above 0, -1 below, 0 of 0;", () -> {
            for (int n = 3; n <= 32; n++) {
                long most = (1L << (n - 1)) - 1;
                turns(2, n, 0, 0);
                turns(2, n, 1, 1L << (n - 2));
                turns(2, n, -1, 3L << (n - 2));
                turns(2, n, (int) most, 1L << (n - 2));
                turns(2, n, (int) most + 2, 3L << (n - 2));
                turns(2, n, (int) most + 1, most + 1);
            }
        });
        wholeTurns();
        patternTurns();
        Sentences.test("P18", "IllegalArgumentException: another how.", () -> {
            turns(0, 8, 0x40, 0xC0);
            turns(7, 8, 0x40, 0x3F);
            for (int how : new int[] {-1, 8, 16, Integer.MIN_VALUE, Integer.MAX_VALUE}) {
                Houses.refused("turn " + how, Houses.ARGUMENT, x -> x.turn(0, how));
                Houses.refused("turn " + how + " of NaR", Houses.ARGUMENT, x -> x.turn(2, how));
            }
            for (int none : Houses.NO_PLACE) {
                Houses.refused("turn of " + none, Houses.INDEX, x -> x.turn(none, 6));
                Houses.refused("no turn of " + none, Houses.INDEX, x -> x.turn(none, 8));
            }
        });
    }

    private static void wholeTurns() {
        Sentences.test("P18", "3: the nearest whole number (of two the even one);", () -> {
            turns(3, 32, Houses.HALF, 0);
            turns(3, 32, Houses.HALF + 1, Houses.ONE);
            turns(3, 32, -Houses.HALF, 0);
            turns(3, 32, -Houses.HALF - 1, 0xC0000000L);
            turns(3, 8, 0x44, 0x48);
            turns(3, 8, 0x4A, 0x48);
            turns(3, 8, 0xBC, 0xB8);
            turns(3, 8, 0xB6, 0xB8);
            turns(3, 32, 0x43FFFFFF, Houses.ONE);
            turns(3, 32, 0x4A000001, Houses.THREE);
            turns(3, 32, 0x7E7FFFFF, 0x7E800000);
            turns(3, 32, 0x7E7FFFFD, 0x7E7FFFFC);
            turns(3, 32, -0x7E7FFFFD, -0x7E7FFFFC & 0xFFFFFFFFL);
            unturned(3);
            turns(3, 3, 1, 0);
            turns(3, 3, 7, 0);
        });
        Sentences.test("P18", "4: the greatest whole number not above it;", () -> {
            turns(4, 32, Houses.LEAST, 0);
            turns(4, 32, -Houses.LEAST, 0xC0000000L);
            turns(4, 32, Houses.ONE - 1, 0);
            turns(4, 32, Houses.ONE + 1, Houses.ONE);
            turns(4, 32, Houses.TWO - 1, Houses.ONE);
            turns(4, 32, -Houses.ONE - 1, 0xB8000000L);
            turns(4, 32, 1 - Houses.ONE, 0xC0000000L);
            turns(4, 32, 0x7E7FFFFF, 0x7E7FFFFE);
            turns(4, 32, -0x7E7FFFFF, -0x7E800000 & 0xFFFFFFFFL);
            unturned(4);
            turns(4, 3, 1, 0);
            turns(4, 3, 7, 6);
        });
        Sentences.test("P18", "5: the least one not below it;", () -> {
            turns(5, 32, Houses.LEAST, Houses.ONE);
            turns(5, 32, -Houses.LEAST, 0);
            turns(5, 32, Houses.ONE - 1, Houses.ONE);
            turns(5, 32, Houses.ONE + 1, Houses.TWO);
            turns(5, 32, Houses.FOUR - 1, Houses.FOUR);
            turns(5, 32, -Houses.ONE - 1, 0xC0000000L);
            turns(5, 32, 1 - Houses.ONE, 0);
            turns(5, 32, 0x7E7FFFFF, 0x7E800000);
            turns(5, 32, -0x7E7FFFFF, -0x7E7FFFFE & 0xFFFFFFFFL);
            unturned(5);
            turns(5, 3, 1, 2);
            turns(5, 3, 7, 0);
        });
    }

    /** Whole numbers stay as they are, and so does NaR; from 2^22 (0x7E800000) on all are whole. */
    private static void unturned(int how) {
        for (int n = 3; n <= 32; n++) {
            long most = (1L << (n - 1)) - 1;
            for (long bits : new long[] {0, 1L << (n - 2), 3L << (n - 2), most, most + 1, most + 2}) {
                turns(how, n, (int) bits, bits);
            }
        }
        turns(how, 32, 0x7EBFFFFF, 0x7EBFFFFF);
        turns(how, 32, 0x7E7FFFFE, 0x7E7FFFFE);
    }

    private static void patternTurns() {
        String told = "(6 and 7 are told of NaR, too.)";
        Sentences.test("P18", "6: its pattern is the next one (0 behind the greatest one);", () -> {
            for (int n = 3; n <= 32; n++) {
                long most = (1L << n) - 1;
                turns(6, n, (int) most, 0);
                turns(6, n, (int) most - 1, most);
                turns(6, n, 0, 1);
                turns(6, n, 1 << (n - 2), (1L << (n - 2)) + 1);
            }
        });
        Sentences.test("P18", "7: its pattern is the one ahead (the greatest one ahead of 0).", () -> {
            for (int n = 3; n <= 32; n++) {
                long most = (1L << n) - 1;
                turns(7, n, 0, most);
                turns(7, n, (int) most, most - 1);
                turns(7, n, 1, 0);
                turns(7, n, 1 << (n - 2), (1L << (n - 2)) - 1);
            }
        });
        Sentences.test("P18", told, () -> {
            for (int n = 3; n <= 32; n++) {
                long nar = 1L << (n - 1);
                turns(6, n, (int) nar, nar + 1);
                turns(7, n, (int) nar, nar - 1);
                turns(6, n, (int) nar - 1, nar);
                turns(7, n, (int) nar + 1, nar);
            }
        });
    }
}
