import java.io.IOException;
import java.math.BigInteger;

/** The sentences of promises 19 to 23. */
public final class QuiresBoundaryTest {
    private static final BigInteger ONE = BigInteger.TWO.pow(240);
    private static final BigInteger NAR = BigInteger.TWO.pow(511);

    public static void main(String[] args) throws IOException {
        Sentences.open();
        clear();
        gather();
        dot();
        settle();
        image();
        Sentences.close("P19", "P20", "P21", "P22", "P23");
    }

    private static void holds(String what, PositHouse x, int k, BigInteger want) {
        for (int i = 0; i < 16; i++) {
            Sentences.due(what + ", word " + i, x.image(k, i), want.shiftRight(32 * i).intValue());
        }
    }

    private static BigInteger number(long whole) {
        return ONE.multiply(BigInteger.valueOf(whole));
    }

    /** Place i is i + 1. */
    private static PositHouse counted() {
        PositHouse x = new PositHouse();
        for (int i = 0; i < 32; i++) {
            x.ratio(i, i + 1, 1);
        }
        return x;
    }

    private static void clear() {
        Sentences.test("P19", "Quire k is 0.", () -> {
            PositHouse x = Houses.of(32, Houses.ONE, Houses.NAR);
            for (int k = 0; k < 4; k++) {
                x.gather(k, 0, 0, true);
            }
            x.gather(1, 1, 0, false);
            x.clear(0);
            x.clear(1);
            x.clear(1);
            holds("what was -1", x, 0, BigInteger.ZERO);
            holds("what was NaR", x, 1, BigInteger.ZERO);
            holds("another", x, 2, number(-1));
            holds("the last one", x, 3, number(-1));
            x.clear(3);
            holds("the last one, cleared", x, 3, BigInteger.ZERO);
            x.gather(1, 0, 0, false);
            holds("what was NaR counts again", x, 1, number(1));
            for (int none : Houses.NO_QUIRE) {
                Houses.refused("clear of " + none, Houses.INDEX, h -> h.clear(none));
            }
        });
    }

    private static void gather() {
        String rule = "To quire k comes p's times q's (minus: it goes from it).";
        Sentences.test("P20", rule, () -> {
            PositHouse x = Houses.of(32, Houses.TWO, Houses.THREE, -Houses.THREE, 0);
            x.gather(3, 0, 1, false);
            holds("6", x, 3, number(6));
            x.gather(3, 0, 2, false);
            holds("6 - 6", x, 3, BigInteger.ZERO);
            x.gather(3, 0, 0, true);
            holds("-4", x, 3, number(-4));
            x.gather(3, 2, 2, true);
            holds("-4 - 9", x, 3, number(-13));
            x.gather(3, 2, 0, true);
            holds("-13 + 6", x, 3, number(-7));
            x.gather(3, 2, 3, true);
            x.gather(3, 3, 2, false);
            holds("with 0", x, 3, number(-7));
            holds("another", x, 0, BigInteger.ZERO);
        });
        Sentences.test("P20", rule, () -> {
            PositHouse x = Houses.of(32, Houses.GREATEST, Houses.LEAST, Houses.TWO - 1);
            BigInteger units = BigInteger.ZERO;
            BigInteger[] parts = {BigInteger.ONE.shiftLeft(240), BigInteger.ONE,
                BigInteger.TWO.pow(28).subtract(BigInteger.ONE).shiftLeft(120 - 27)};
            for (int i = 0; i < 18; i++) {
                int p = i % 3;
                int q = i / 3 % 3;
                x.gather(0, p, q, i >= 9 && p != q);
                BigInteger product = parts[p].multiply(parts[q]);
                units = i >= 9 && p != q ? units.subtract(product) : units.add(product);
                holds("after " + i, x, 0, units);
            }
        });
        Sentences.test("P20", rule, () -> {
            PositHouse x = Houses.of(32, Houses.GREATEST, Houses.LEAST);
            x.gather(0, 1, 1, true);
            holds("below 0 through all words", x, 0, BigInteger.ONE.negate());
            x.gather(0, 1, 1, false);
            holds("and back to 0", x, 0, BigInteger.ZERO);
            x.gather(0, 0, 0, true);
            x.gather(0, 1, 1, true);
            holds("-2^240 - 2^-240", x, 0, BigInteger.TWO.pow(480).add(BigInteger.ONE).negate());
            for (int none : Houses.NO_PLACE) {
                Houses.refused("gather of " + none, Houses.INDEX, h -> h.gather(0, none, 0, false));
                Houses.refused("gather with " + none, Houses.INDEX, h -> h.gather(0, 0, none, true));
                Houses.refused("gather of " + none + " and NaR", Houses.INDEX, h -> h.gather(0, none, 2, true));
            }
            for (int none : Houses.NO_QUIRE) {
                Houses.refused("gather to " + none, Houses.INDEX, h -> h.gather(none, 0, 1, false));
            }
        });
        Sentences.test("P20", "NaR stays NaR, till it is cleared (also below).", () -> {
            for (int i = 0; i < 4; i++) {
                PositHouse x = Houses.of(32, Houses.ONE, Houses.NAR, 0);
                x.gather(2, i % 2 == 0 ? 1 : 2, i % 2 == 0 ? 2 : 1, i >= 2);
                holds("0 times NaR", x, 2, NAR);
                x.gather(2, 0, 0, i % 2 == 0);
                x.gather(2, 1, 1, true);
                holds("gathered further", x, 2, NAR);
                x.dot(2, 3, 3, 5);
                x.dot(2, 0, 0, 0);
                holds("dot further", x, 2, NAR);
                x.settle(2, 5);
                x.settle(2, 5);
                Sentences.due("settled", x.pattern(5), 0x80000000L);
                holds("settled, and NaR still", x, 2, NAR);
                x.clear(2);
                x.gather(2, 0, 0, false);
                holds("cleared", x, 2, number(1));
            }
        });
    }

    private static void dot() {
        String rule = "To quire k come the products of places p, p + 1, .. and q, q + 1, .., n of them.";
        Sentences.test("P21", rule, () -> {
            PositHouse x = counted();
            x.dot(0, 0, 0, 32);
            holds("all 32 squares", x, 0, number(11440));
            x.dot(0, 31, 31, 1);
            holds("and the last one", x, 0, number(11440 + 1024));
            x.dot(1, 0, 31, 1);
            holds("1 * 32", x, 1, number(32));
            x.dot(2, 0, 1, 31);
            holds("31 of them, beside one another", x, 2, number(10416 + 496));
            x.dot(3, 30, 0, 2);
            holds("31 * 1 + 32 * 2", x, 3, number(95));
            x.dot(3, 0, 30, 2);
            holds("once more, the other way", x, 3, number(190));
        });
        Sentences.test("P21", rule, () -> {
            PositHouse x = counted();
            x.set(31, 32, Houses.NAR);
            x.dot(0, 0, 0, 31);
            holds("all ahead of the NaR", x, 0, number(10416));
            x.dot(0, 0, 0, 32);
            holds("with the NaR, the last of them", x, 0, NAR);
            x.dot(1, 0, 31, 1);
            holds("with q's NaR", x, 1, NAR);
            x.dot(2, 0, 1, 31);
            holds("with q's NaR at the end", x, 2, NAR);
        });
        String places = "IndexOutOfBoundsException also: one of them is no place (with n 0 p and q are looked at alone).";
        Sentences.test("P21", places, () -> {
            for (int from = 1; from < 32; from++) {
                int p = from;
                PositHouse x = counted();
                x.dot(0, p, 0, 32 - p);
                x.dot(1, 0, p, 32 - p);
                Sentences.due("as many as there are", Houses.thrown(x, h -> h.dot(2, p, p, 32 - p)), "nothing");
                Houses.refused("one more from p " + p, Houses.INDEX, h -> h.dot(0, p, 0, 33 - p));
                Houses.refused("one more from q " + p, Houses.INDEX, h -> h.dot(0, 0, p, 33 - p));
                Houses.refused("32 from " + p, Houses.INDEX, h -> h.dot(0, p, p, 32));
            }
        });
        Sentences.test("P21", places, () -> {
            PositHouse x = counted();
            x.set(0, 32, Houses.NAR);
            x.set(31, 32, Houses.NAR);
            for (int p : new int[] {0, 31}) {
                for (int q : new int[] {0, 31}) {
                    x.dot(0, p, q, 0);
                }
            }
            holds("none of them", x, 0, BigInteger.ZERO);
            for (int none : Houses.NO_PLACE) {
                for (int n : new int[] {0, 1, 2, 32}) {
                    Houses.refused(n + " of p " + none, Houses.INDEX, h -> h.dot(0, none, 0, n));
                    Houses.refused(n + " of q " + none, Houses.INDEX, h -> h.dot(0, 0, none, n));
                }
            }
            for (int none : Houses.NO_QUIRE) {
                Houses.refused("to quire " + none, Houses.INDEX, h -> h.dot(none, 0, 0, 1));
                Houses.refused("to quire " + none + ", 0", Houses.INDEX, h -> h.dot(none, 0, 0, 0));
            }
        });
        Sentences.test("P21", "IllegalArgumentException: n isn't 0 .. 32, ahead of that.", () -> {
            for (int n : new int[] {-1, 33, 64, Integer.MIN_VALUE, Integer.MAX_VALUE}) {
                Houses.refused(n + " of them", Houses.ARGUMENT, h -> h.dot(0, 0, 0, n));
                Houses.refused(n + " of them, too far for p", Houses.ARGUMENT, h -> h.dot(0, 31, 0, n));
                Houses.refused(n + " of them, too far for q", Houses.ARGUMENT, h -> h.dot(0, 0, 31, n));
                for (int none : Houses.NO_PLACE) {
                    Houses.refused(n + " of p " + none, Houses.INDEX, h -> h.dot(0, none, 0, n));
                    Houses.refused(n + " of q " + none, Houses.INDEX, h -> h.dot(0, 0, none, n));
                }
                for (int none : Houses.NO_QUIRE) {
                    Houses.refused(n + " to quire " + none, Houses.INDEX, h -> h.dot(none, 0, 0, n));
                }
            }
        });
    }

    /** What quire 0 settles as, of width n, when it holds a and as many 2^-240 as told. */
    private static long settled(int n, int a, int units) {
        PositHouse x = Houses.of(32, a, Houses.ONE, Houses.LEAST);
        x.gather(0, 0, 1, false);
        for (int i = 0; i < Math.abs(units); i++) {
            x.gather(0, 2, 2, units < 0);
        }
        x.set(9, n, 5);
        x.settle(0, 9);
        Sentences.due("the width of what was settled", x.width(9), n);
        return x.pattern(9);
    }

    /** Place 9, of width n, becomes 2^top and, or less, 2^e; of width n 2^top is the bound below the greatest. */
    private static long powersSettled(int n, int top, int e, boolean minus) {
        PositHouse x = Houses.of(32, Houses.ONE);
        int half = Math.floorDiv(e, 2);
        putPower(x, 1, top);
        putPower(x, 2, half);
        putPower(x, 3, e - half);
        x.gather(0, 0, 1, false);
        x.set(9, n, 0);
        x.settle(0, 9);
        Sentences.due("the bound itself", x.pattern(9), (1L << (n - 1)) - 2);
        x.gather(0, 2, 3, minus);
        x.settle(0, 9);
        return x.pattern(9);
    }

    /** 2^e, for e from -108 to 108: both bits of E are there. */
    private static void putPower(PositHouse x, int p, int e) {
        int r = Math.floorDiv(e, 4);
        long run = r >= 0 ? (1L << (r + 2)) - 2 : 1;
        int bits = r >= 0 ? r + 2 : 1 - r;
        x.set(p, 32, (int) ((run << 2 | Math.floorMod(e, 4)) << (29 - bits)));
    }

    private static void settle() {
        String rule = "Place r becomes what quire k holds.";
        Sentences.test("P22", rule, () -> {
            Sentences.due("4", settled(3, Houses.FOUR, 0), 2);
            Sentences.due("4 + 2^-240", settled(3, Houses.FOUR, 1), 3);
            Sentences.due("4 - 2^-240", settled(3, Houses.FOUR, -1), 2);
            Sentences.due("1/4", settled(3, Houses.QUARTER, 0), 2);
            Sentences.due("1/4 - 2^-240", settled(3, Houses.QUARTER, -1), 1);
            Sentences.due("1/4 + 2^-240", settled(3, Houses.QUARTER, 1), 2);
            Sentences.due("-4", settled(3, -Houses.FOUR, 0), 6);
            Sentences.due("-4 - 2^-240", settled(3, -Houses.FOUR, -1), 5);
            Sentences.due("-4 + 2^-240", settled(3, -Houses.FOUR, 1), 6);
            Sentences.due("-1/4 + 2^-240", settled(3, -Houses.QUARTER, 1), 7);
        });
        Sentences.test("P22", rule, () -> {
            for (int n = 3; n <= 32; n++) {
                long most = (1L << (n - 1)) - 1;
                Sentences.due("0", settled(n, 0, 0), 0);
                Sentences.due("2^-240", settled(n, 0, 1), 1);
                Sentences.due("-2^-240", settled(n, 0, -1), 2 * most + 1);
                Sentences.due("2^120 - 2^-240", settled(n, Houses.GREATEST, -1), most);
                Sentences.due("2^120", settled(n, Houses.GREATEST, 0), most);
                Sentences.due("2^120 + 2^-240", settled(n, Houses.GREATEST, 1), most);
                Sentences.due("-2^120 - 2^-240", settled(n, -Houses.GREATEST, -1), most + 2);
                Sentences.due("NaR", settled(n, Houses.NAR, 1), most + 1);
                Sentences.due("1", settled(n, Houses.ONE, 0), 1L << (n - 2));
                Sentences.due("1 + 2^-240", settled(n, Houses.ONE, 1), 1L << (n - 2));
            }
        });
        Sentences.test("P22", rule, () -> {
            for (int n = 3; n < 30; n++) {
                int top = 4 * (n - 3) + 2;
                long most = (1L << (n - 1)) - 1;
                for (int e = -216; e < top; e++) {
                    Sentences.due("2^" + top + " and 2^" + e, powersSettled(n, top, e, false), most);
                    Sentences.due("2^" + top + " less 2^" + e, powersSettled(n, top, e, true), most - 1);
                }
            }
        });
        Sentences.test("P22", rule, () -> {
            PositHouse x = Houses.of(32, Houses.GREATEST);
            x.gather(3, 0, 0, true);
            x.settle(3, 31);
            Sentences.due("-2^240", x.pattern(31), 0x80000001L);
            holds("the quire stays", x, 3, BigInteger.TWO.pow(480).negate());
            x.settle(2, 31);
            Sentences.due("another's 0", x.pattern(31), 0);
            for (int none : Houses.NO_PLACE) {
                Houses.refused("settle to " + none, Houses.INDEX, h -> h.settle(0, none));
                Houses.refused("settle of NaR to " + none, Houses.INDEX, h -> h.settle(1, none));
            }
            for (int none : Houses.NO_QUIRE) {
                Houses.refused("settle of " + none, Houses.INDEX, h -> h.settle(none, 0));
            }
        });
    }

    private static void image() {
        Sentences.test("P23", "Bits 32 i .. 32 i + 31 of quire k's image.", () -> {
            PositHouse x = Houses.of(32, Houses.LEAST, Houses.GREATEST, Houses.ONE);
            x.gather(0, 0, 0, false);
            x.gather(0, 2, 2, false);
            x.gather(0, 1, 1, false);
            for (int i = 0; i < 16; i++) {
                Sentences.due("word " + i, x.image(0, i), i == 0 ? 1 : i == 7 ? 1 << 16 : i == 15 ? 1 : 0);
            }
            x.gather(3, 0, 0, true);
            for (int i = 0; i < 16; i++) {
                Sentences.due("word " + i + " of -2^-240", x.image(3, i), -1);
            }
            x.gather(2, 1, 1, true);
            Sentences.due("the last word of -2^240", x.image(2, 15), -1);
            Sentences.due("the one ahead", x.image(2, 14), 0);
        });
        Sentences.test("P23", "Bits 32 i .. 32 i + 31 of quire k's image.", () -> {
            PositHouse x = Houses.of(32, Houses.LEAST, Houses.NAR);
            x.gather(0, 0, 0, true);
            x.gather(0, 1, 0, false);
            Sentences.due("the last word of NaR", x.image(0, 15), Integer.MIN_VALUE);
            for (int i = 0; i < 15; i++) {
                Sentences.due("word " + i + " of NaR", x.image(0, i), 0);
            }
            holds("another", x, 3, BigInteger.ZERO);
        });
        Sentences.test("P23", "IllegalArgumentException: i isn't 0 .. 15.", () -> {
            PositHouse x = Houses.furnished();
            Sentences.due("the first word", Houses.thrown(x, h -> h.image(0, 0)), "nothing");
            Sentences.due("the last word", Houses.thrown(x, h -> h.image(3, 15)), "nothing");
            for (int i : new int[] {-1, 16, 32, Integer.MIN_VALUE, Integer.MAX_VALUE}) {
                Houses.refused("word " + i, Houses.ARGUMENT, h -> h.image(0, i));
                Houses.refused("word " + i + " of NaR", Houses.ARGUMENT, h -> h.image(1, i));
                for (int none : Houses.NO_QUIRE) {
                    Houses.refused("word " + i + " of " + none, Houses.INDEX, h -> h.image(none, i));
                }
            }
            for (int none : Houses.NO_QUIRE) {
                Houses.refused("word 0 of " + none, Houses.INDEX, h -> h.image(none, 0));
            }
        });
    }
}
