import java.io.IOException;

/** The sentences of promises 24 to 27. */
public final class TextsBoundaryTest {
    public static void main(String[] args) throws IOException {
        Sentences.open();
        feed();
        read();
        write();
        letter();
        Sentences.close("P24", "P25", "P26", "P27");
    }

    /** A tape of so many digits 0. */
    private static PositHouse fed(int count) {
        PositHouse x = new PositHouse();
        Houses.say(x, "0".repeat(count));
        return x;
    }

    private static void feed() {
        String rule = "The n lowest bytes of eight come to the tape, the lowest first: how many there are.";
        Sentences.test("P24", rule, () -> {
            for (int n = 1; n <= 8; n++) {
                PositHouse x = new PositHouse();
                Sentences.due("fed " + n, x.feed(0x3837363534333231L, n), n);
                Sentences.due("read " + n, x.read(0), 0);
                x.ratio(1, Long.parseLong("12345678".substring(0, n)), 1);
                Sentences.due("the digits of " + n, x.pattern(0), x.pattern(1));
            }
        });
        Sentences.test("P24", rule, () -> {
            PositHouse x = new PositHouse();
            Sentences.due("one byte, the others are nothing", x.feed(0xFFFFFFFFFFFFFF37L, 1), 1);
            Sentences.due("two more", x.feed(0x7878783531L, 2), 3);
            Sentences.due("read", x.read(0), 0);
            Sentences.due("what came", x.whole(0), 715);
            Sentences.due("a highest byte of all ones", x.feed(0xFF31313131313131L, 8), 8);
            Sentences.due("is wrong", x.read(0), -8);
            Sentences.due("a byte of all ones", x.feed(-1, 1), 1);
            Sentences.due("is wrong, too", x.read(0), -1);
        });
        Sentences.test("P24", rule, () -> {
            PositHouse x = new PositHouse();
            for (int i = 1; i <= 80; i++) {
                Sentences.due("one by one", x.feed('7', 1), i);
            }
            Sentences.due("the 61st is wrong", x.read(0), -61);
            for (int i = 1; i <= 10; i++) {
                Sentences.due("eight by eight", x.feed(0, 8), 8 * i);
            }
            Sentences.due("the first is wrong", x.read(0), -1);
            Sentences.due("the tape is empty again", x.feed('7', 1), 1);
        });
        String refused = "IllegalArgumentException: n isn't 1 .. 8, or there would be more than 80.";
        Sentences.test("P24", refused, () -> {
            for (int n : new int[] {0, 9, -1, -8, 16, 257, Integer.MIN_VALUE, Integer.MAX_VALUE}) {
                Houses.refused("feed of " + n, Houses.ARGUMENT, x -> x.feed(0x3333333333333333L, n));
                PositHouse x = fed(80);
                Sentences.due("feed of " + n + ", full", Houses.thrown(x, h -> h.feed(0, n)), Houses.ARGUMENT.getName());
                PositHouse y = new PositHouse();
                Sentences.due("feed of " + n + ", empty", Houses.thrown(y, h -> h.feed(0, n)), Houses.ARGUMENT.getName());
                Sentences.due("empty still", y.read(0), -1);
            }
        });
        Sentences.test("P24", refused, () -> {
            for (int n = 1; n <= 8; n++) {
                int more = n;
                Sentences.due("80 with " + n, fed(80 - n).feed(0, n), 80);
                PositHouse x = fed(81 - n);
                Sentences.due("81 with " + n, Houses.thrown(x, h -> h.feed(0, more)), Houses.ARGUMENT.getName());
                if (n > 1) {
                    Sentences.due("nothing came of it", x.feed(0, n - 1), 80);
                }
                PositHouse full = fed(80);
                Sentences.due("full", Houses.thrown(full, h -> h.feed(0, more)), Houses.ARGUMENT.getName());
                Sentences.due("full still", full.read(0), -61);
            }
        });
        Sentences.test("P24", refused, () -> {
            PositHouse x = fed(59);
            x.feed('3' | 'x' << 8, 1);
            for (int i = 0; i < 4; i++) {
                Sentences.due("feed of 0", Houses.thrown(x, h -> h.feed('x', 0)), Houses.ARGUMENT.getName());
            }
            Sentences.due("60 digits are a text still", x.read(0), 0);
            Sentences.due("which is 3", x.whole(0), 3);
        });
    }

    private static void read() {
        String tape = "The tape (empty then, but where IndexOutOfBoundsException is thrown)";
        Sentences.test("P25", tape, () -> {
            PositHouse x = new PositHouse();
            Houses.say(x, "7");
            Sentences.due("read", x.read(0), 0);
            Sentences.due("read of the empty tape", x.read(0), -1);
            Sentences.due("place after that", x.whole(0), 7);
            Houses.say(x, "7x9");
            Sentences.due("read of a wrong one", x.read(0), -2);
            Sentences.due("empty after a wrong one, too", x.feed('5', 1), 1);
            Sentences.due("read of what came then", x.read(0), 0);
            Sentences.due("place after that", x.whole(0), 5);
            Houses.say(x, "NaR");
            Sentences.due("read of NaR", x.read(0), 0);
            Sentences.due("empty after NaR", x.feed('5', 1), 1);
        });
        Sentences.test("P25", tape, () -> {
            for (int none : Houses.NO_PLACE) {
                for (String text : new String[] {"", "8", "x", "-", "NaR", "1".repeat(80)}) {
                    PositHouse x = new PositHouse();
                    Houses.say(x, text);
                    Sentences.due("read to " + none, Houses.thrown(x, h -> h.read(none)), Houses.INDEX.getName());
                    PositHouse y = new PositHouse();
                    Houses.say(y, text);
                    Sentences.due("read of the same tape then", x.read(3), y.read(3));
                    Sentences.due("and what it gave", x.pattern(3), y.pattern(3));
                }
                Houses.refused("read to " + none, Houses.INDEX, h -> h.read(none));
            }
        });
        Sentences.test("P25", "is read as a DECIMAL, which place r becomes: 0;", () -> {
            for (int n = 3; n <= 32; n++) {
                gives("0", n, 0);
                gives("1", n, 1L << (n - 2));
                gives("-1", n, 3L << (n - 2));
                gives("NaR", n, 1L << (n - 1));
                gives("1e999", n, (1L << (n - 1)) - 1);
                gives("-1e999", n, (1L << (n - 1)) + 1);
                gives("1e-999", n, 1);
                gives("-1e-999", n, (1L << n) - 1);
                gives("0." + "0".repeat(58) + "9", n, 1);
                gives("9".repeat(60) + "e999", n, (1L << (n - 1)) - 1);
            }
        });
        Sentences.test("P25", "is read as a DECIMAL, which place r becomes: 0;", () -> {
            gives("-" + "0".repeat(59) + ".5e+001", 8, 0xAE);
            gives("-" + "0".repeat(58) + ".50e-000", 8, 0xC8);
            gives("1329227995784915872903807060280344576", 32, 0x7FFFFFFF);
            gives("1329227995784915872903807060280344575", 32, 0x7FFFFFFF);
            gives("332306998946228968225951765070086144", 32, 0x7FFFFFFE);
            gives("332306998946228968225951765070086144.00000000000000000000001", 32, 0x7FFFFFFF);
            gives("332306998946228968225951765070086143.99999999999999999999999", 32, 0x7FFFFFFE);
            gives("7.5231638452626400509999138382223723380394595633413601376560e-37", 32, 1);
            gives("3.009265538105056020399965535288948935215783825336544055062e-36", 32, 1);
            gives("3.009265538105056020399965535288948935215783825336544055063e-36", 32, 2);
        });
        Sentences.test("P25", "-1 less the place that is WRONG (and r stays).", () -> {
            String longest = "-" + "1".repeat(59) + ".1e-123";
            for (int at = 0; at <= longest.length(); at++) {
                PositHouse x = new PositHouse();
                x.set(31, 5, 9);
                Houses.say(x, longest.substring(0, at) + "x");
                Sentences.due("WRONG at " + at, x.read(31), -1 - at);
                Sentences.due("pattern after it", x.pattern(31), 9);
                Sentences.due("width after it", x.width(31), 5);
            }
        });
        Sentences.test("P25", "-1 less the place that is WRONG (and r stays).", () -> {
            PositHouse x = new PositHouse();
            x.set(0, 8, 0x80);
            Sentences.due("of an empty tape", x.read(0), -1);
            Sentences.due("NaR stays", x.pattern(0), 0x80);
            Houses.say(x, "-");
            Sentences.due("of one byte that is too few", x.read(0), -2);
            Houses.say(x, "1".repeat(80));
            Sentences.due("of a full tape", x.read(0), -61);
            Sentences.due("NaR stays still", x.pattern(0), 0x80);
        });
    }

    private static void gives(String text, int n, long want) {
        PositHouse x = new PositHouse();
        x.set(31, n, 3);
        Houses.say(x, text);
        Sentences.due("read of " + text, x.read(31), 0);
        Sentences.due("pattern of " + text + " of width " + n, x.pattern(31), want);
        Sentences.due("width of " + text, x.width(31), n);
    }

    private static void write() {
        String rule = "p's is written, EXACT or SHORT: how many bytes.";
        Sentences.test("P26", rule, () -> {
            PositHouse x = Houses.of(32, 0, Houses.NAR, Houses.ONE, -Houses.LEAST, -Houses.HALF);
            Sentences.due("0", x.write(0, false), 1);
            Sentences.due("0, short", x.write(0, true), 1);
            Sentences.due("NaR", x.write(1, false), 3);
            Sentences.due("NaR, short", x.write(1, true), 3);
            Sentences.due("1", x.write(2, false), 1);
            Sentences.due("1, short", x.write(2, true), 3);
            Sentences.due("the longest", x.write(3, false), 123);
            Sentences.due("the longest, short", x.write(3, true), 6);
            Sentences.due("-0.5", x.write(4, false), 4);
            Sentences.due("-5e-1", x.write(4, true), 5);
            Sentences.due("the last place", x.write(31, true), 1);
        });
        Sentences.test("P26", rule, () -> {
            PositHouse x = Houses.furnished();
            String before = x.pattern(0) + " " + x.width(0) + " " + x.image(0, 7);
            x.write(0, false);
            x.write(0, true);
            Sentences.due("nothing else changes", x.pattern(0) + " " + x.width(0) + " " + x.image(0, 7), before);
            Sentences.due("nor does the tape", x.feed('3', 1), 3);
            for (int none : Houses.NO_PLACE) {
                Houses.refused("write of " + none, Houses.INDEX, h -> h.write(none, false));
                Houses.refused("write of " + none + ", short", Houses.INDEX, h -> h.write(none, true));
            }
        });
        Sentences.test("P26", rule, () -> {
            for (int n = 3; n <= 32; n++) {
                long most = (1L << (n - 1)) - 1;
                for (long u : new long[] {1, 2, 3, most - 1, most, most + 2, most + 3, 2 * most + 1, 1L << (n - 2)}) {
                    Sentences.due("EXACT " + u + "/" + n, Houses.exact(n, u), Oracle.exact(u & (2 * most + 1), n));
                    Sentences.due("SHORT " + u + "/" + n, Houses.brief(n, u), Oracle.brief(u & (2 * most + 1), n));
                }
            }
        });
    }

    private static void letter() {
        String rule = "Byte i of what was written last; -1 without it.";
        Sentences.test("P27", rule, () -> {
            PositHouse x = new PositHouse();
            for (int i : new int[] {0, 1, -1, 122, 123, 160, Integer.MIN_VALUE, Integer.MAX_VALUE}) {
                Sentences.due("before anything was written", x.letter(i), -1);
            }
            x.ratio(0, -1, 4);
            x.write(0, false);
            String text = "-0.25";
            for (int i = 0; i < text.length(); i++) {
                Sentences.due("letter " + i, x.letter(i), text.charAt(i));
            }
            for (int i : new int[] {-1, 5, 6, 79, 80, 122, 123, 159, 160, 512, Integer.MIN_VALUE, Integer.MAX_VALUE}) {
                Sentences.due("letter " + i, x.letter(i), -1);
            }
        });
        Sentences.test("P27", rule, () -> {
            PositHouse x = Houses.of(32, -1, 0, Houses.NAR);
            x.write(0, false);
            Sentences.due("the first of the longest", x.letter(0), '-');
            Sentences.due("the last of the longest", x.letter(122), '5');
            Sentences.due("behind the longest", x.letter(123), -1);
            x.write(2, true);
            Sentences.due("a shorter one", "" + (char) x.letter(0) + (char) x.letter(1) + (char) x.letter(2), "NaR");
            Sentences.due("behind it", x.letter(3), -1);
            x.write(1, true);
            Sentences.due("the shortest", x.letter(0), '0');
            Sentences.due("behind it", x.letter(1), -1);
        });
        Sentences.test("P27", rule, () -> {
            PositHouse x = Houses.of(32, Houses.TWO);
            x.write(0, true);
            Houses.thrown(x, h -> h.write(32, true));
            x.set(0, 8, 0);
            Houses.say(x, "9");
            x.read(0);
            x.read(0);
            Sentences.due("what other calls do leaves it", "" + (char) x.letter(0) + (char) x.letter(1), "2e");
            Sentences.due("its end", x.letter(3), -1);
        });
    }
}
