/** Each promise by itself: ordinary inputs, the edges that the document names, and wrong inputs. */
public final class PromisesTest {
    private static final Class<?> INDEX = IndexOutOfBoundsException.class;
    private static final Class<?> ARGUMENT = IllegalArgumentException.class;
    private static final Class<?> ARITHMETIC = ArithmeticException.class;
    private static final int[] NO_PLACE = {-1, 32, Integer.MIN_VALUE, Integer.MAX_VALUE};
    private static final int[] NO_QUIRE = {-1, 4, Integer.MIN_VALUE, Integer.MAX_VALUE};
    private static final int NAR8 = 128;

    private static int wrong = 0;

    private interface Call {
        void on(PositHouse x);
    }

    public static void main(String[] args) {
        newObject();
        set();
        patternAndWidth();
        take();
        ratio();
        whole();
        order();
        addAndLess();
        timesAndOver();
        fused();
        root();
        under();
        far();
        power();
        turn();
        clear();
        gather();
        dot();
        settle();
        image();
        feed();
        read();
        readWrong();
        writeExact();
        writeShort();
        letter();
        System.out.println(wrong == 0 ? "all promises hold" : wrong + " answers are wrong");
        System.exit(wrong == 0 ? 0 : 1);
    }

    // ---- helpers

    private static void due(String what, long got, long want) {
        if (got != want) {
            wrong++;
            System.out.println(what + " answered " + got + ", due is " + want);
        }
    }

    private static void due(String what, String got, String want) {
        if (!got.equals(want)) {
            wrong++;
            System.out.println(what + " answered " + got + ", due is " + want);
        }
    }

    /** A house with something everywhere, so that a change would be seen. */
    private static PositHouse furnished() {
        PositHouse x = new PositHouse();
        x.set(0, 8, 0x4C);
        x.set(1, 16, 0x5000);
        x.set(2, 32, Integer.MIN_VALUE);
        x.ratio(31, -2, 7);
        x.gather(0, 0, 1, false);
        x.gather(1, 2, 0, false);
        x.gather(3, 0, 31, false);
        x.write(31, true);
        x.feed('1' | '2' << 8, 2);
        return x;
    }

    private static String state(PositHouse x) {
        StringBuilder text = new StringBuilder();
        for (int p = 0; p < 32; p += p < 4 ? 1 : 27) {
            text.append(x.pattern(p)).append('/').append(x.width(p)).append(' ');
        }
        for (int k = 0; k < 4; k++) {
            for (int i = 0; i < 16; i++) {
                text.append(x.image(k, i)).append(' ');
            }
        }
        for (int i = -1; i < 20; i++) {
            text.append(x.letter(i)).append(' ');
        }
        return text.toString();
    }

    /** The call throws just that, and places, quires, tape and text stay as they were. */
    private static void refuses(String what, Class<?> want, Call call) {
        PositHouse x = furnished();
        String before = state(x);
        Class<?> got = null;
        try {
            call.on(x);
        } catch (RuntimeException e) {
            got = e.getClass();
        }
        due(what, String.valueOf(got), want.toString());
        due(what + ": state", state(x), before);
        due(what + ": tape", x.feed('3', 1), 3);
        due(what + ": tape read", x.read(5), 0);
        due(what + ": tape's number", x.whole(5), 123);
    }

    /** A house with width 8 at places 0 to 3 and these patterns at 0 to 2. */
    private static PositHouse house(int a, int b, int c) {
        PositHouse x = new PositHouse();
        x.set(0, 8, a);
        x.set(1, 8, b);
        x.set(2, 8, c);
        x.set(3, 8, 0);
        return x;
    }

    private static int say(PositHouse x, String text) {
        for (int i = 0; i < text.length(); i++) {
            x.feed(text.charAt(i), 1);
        }
        return text.length();
    }

    private static String written(PositHouse x, int p, boolean brief) {
        int count = x.write(p, brief);
        StringBuilder text = new StringBuilder();
        for (int i = 0; i < count; i++) {
            text.append((char) x.letter(i));
        }
        due("letter behind", x.letter(count), -1);
        return text.toString();
    }

    // ---- promise 1

    private static void newObject() {
        PositHouse x = new PositHouse();
        for (int p = 0; p < 32; p++) {
            due("new pattern " + p, x.pattern(p), 0);
            due("new width " + p, x.width(p), 32);
        }
        for (int k = 0; k < 4; k++) {
            for (int i = 0; i < 16; i++) {
                due("new image " + k + " " + i, x.image(k, i), 0);
            }
        }
        due("new letter", x.letter(0), -1);
        due("new tape", x.read(0), -1);
        due("new tape's count", x.feed('1', 1), 1);
        PositHouse y = new PositHouse();
        due("another's pattern", y.pattern(0), 0);
        due("another's tape", y.feed('1', 1), 1);
    }

    // ---- promises 2 to 8

    private static void set() {
        PositHouse x = new PositHouse();
        x.set(4, 3, -1);
        due("set -1 of 3 bits", x.pattern(4), 7);
        due("set's width", x.width(4), 3);
        x.set(4, 32, -1);
        due("set -1 of 32 bits", x.pattern(4), 4294967295L);
        x.set(4, 5, 0x7F5);
        due("set's lowest bits", x.pattern(4), 0x15);
        due("set's neighbour", x.pattern(3) + x.pattern(5), 0);
        x.set(31, 16, 0x18000);
        due("set NaR", x.pattern(31), 0x8000);
        for (int none : NO_PLACE) {
            refuses("set none", INDEX, h -> h.set(none, 8, 1));
            refuses("set none of no width", INDEX, h -> h.set(none, 2, 1));
        }
        for (int n : new int[] {2, 33, 0, -8, Integer.MAX_VALUE, Integer.MIN_VALUE}) {
            refuses("set no width", ARGUMENT, h -> h.set(0, n, 1));
        }
    }

    private static void patternAndWidth() {
        PositHouse x = furnished();
        due("pattern", x.pattern(0), 0x4C);
        due("pattern of NaR", x.pattern(2), 2147483648L);
        due("width", x.width(1), 16);
        for (int none : NO_PLACE) {
            refuses("pattern of none", INDEX, h -> h.pattern(none));
            refuses("width of none", INDEX, h -> h.width(none));
        }
    }

    private static void take() {
        PositHouse x = house(0x4C, 0x01, NAR8);
        x.take(0, 3, 32);
        due("take wider", x.pattern(3), 0x4C000000L);
        x.take(0, 0, 5);
        due("take itself, a tie to even", x.pattern(0), 0xA);
        due("take's width", x.width(0), 5);
        x.take(1, 1, 3);
        due("take of less than the least", x.pattern(1), 1);
        x.take(2, 2, 12);
        due("take of NaR", x.pattern(2), 0x800);
        x.set(4, 32, 0x7FFFFFFF);
        x.take(4, 4, 3);
        due("take of more than the greatest", x.pattern(4), 3);
        x.set(4, 16, 0xB3FF);
        x.take(4, 5, 8);
        due("take below 0", x.pattern(5), 0xB4);
        due("take leaves p", x.pattern(4), 0xB3FF);
        for (int none : NO_PLACE) {
            refuses("take from none", INDEX, h -> h.take(none, 0, 8));
            refuses("take to none", INDEX, h -> h.take(0, none, 8));
            refuses("take to none of no width", INDEX, h -> h.take(0, none, 33));
        }
        refuses("take to width 2", ARGUMENT, h -> h.take(0, 1, 2));
        refuses("take to width 33", ARGUMENT, h -> h.take(0, 1, 33));
    }

    private static long ratioOf(long a, long b, int n) {
        PositHouse x = new PositHouse();
        x.set(6, n, 0);
        x.ratio(6, a, b);
        due("ratio's width", x.width(6), n);
        return x.pattern(6);
    }

    private static void ratio() {
        due("1 / 3", ratioOf(1, 3, 32), 850045611);
        due("3 / 2", ratioOf(3, 2, 8), 0x44);
        due("-3 / 2", ratioOf(-3, 2, 8), 0xBC);
        due("3 / -2", ratioOf(3, -2, 8), 0xBC);
        due("-3 / -2", ratioOf(-3, -2, 8), 0x44);
        due("0 / -5", ratioOf(0, -5, 8), 0);
        due("5 / 0", ratioOf(5, 0, 8), NAR8);
        due("0 / 0", ratioOf(0, 0, 32), 2147483648L);
        due("least / least", ratioOf(Long.MIN_VALUE, Long.MIN_VALUE, 8), 0x40);
        due("least / 1", ratioOf(Long.MIN_VALUE, 1, 32), 0x80005000L);
        due("1 / least", ratioOf(1, Long.MIN_VALUE, 3), 7);
        due("greatest / 1 of 3 bits", ratioOf(Long.MAX_VALUE, 1, 3), 3);
        due("17 / 16, a tie", ratioOf(17, 16, 8), 0x40);
        due("19 / 16, a tie", ratioOf(19, 16, 8), 0x42);
        due("above a tie", ratioOf(17L << 50 | 1, 16L << 50, 8), 0x41);
        due("below a tie", ratioOf((17L << 50) - 1, 16L << 50, 8), 0x40);
        due("a last bit above a tie", ratioOf((17L << 27) + 1, 1L << 31, 8), 0x41);
        for (int none : NO_PLACE) {
            refuses("ratio at none", INDEX, h -> h.ratio(none, 1, 0));
        }
    }

    private static long wholeOf(long a, long b) {
        PositHouse x = new PositHouse();
        x.ratio(0, a, b);
        return x.whole(0);
    }

    private static void wholeNone(String what, int n, int bits) {
        refuses(what, ARITHMETIC, h -> {
            int width = h.width(4);
            long old = h.pattern(4);
            h.set(4, n, bits);
            try {
                h.whole(4);
            } finally {
                h.set(4, width, (int) old);
            }
        });
    }

    private static void whole() {
        due("whole 1/2", wholeOf(1, 2), 0);
        due("whole 3/2", wholeOf(3, 2), 2);
        due("whole 5/2", wholeOf(5, 2), 2);
        due("whole -5/2", wholeOf(-5, 2), -2);
        due("whole -7/2", wholeOf(-7, 2), -4);
        due("whole 9/4", wholeOf(9, 4), 2);
        due("whole 11/4", wholeOf(11, 4), 3);
        due("whole 0", wholeOf(0, 4), 0);
        due("whole of a little", wholeOf(1, Long.MAX_VALUE), 0);
        due("whole 2^62", wholeOf(1L << 62, 1), 1L << 62);
        due("whole -2^62", wholeOf(-1L << 62, 1), -1L << 62);
        due("whole -2^63", wholeOf(Long.MIN_VALUE, 1), Long.MIN_VALUE);
        wholeNone("whole 2^63", 32, 0x7FFFB000);
        wholeNone("whole below -2^63", 32, 0x80004FFF);
        wholeNone("whole -2^64", 18, 0x20001);
        wholeNone("whole NaR", 8, NAR8);
        wholeNone("whole 2^120", 32, 0x7FFFFFFF);
        wholeNone("whole -2^120", 32, 0x80000001);
        for (int none : NO_PLACE) {
            refuses("whole of none", INDEX, h -> h.whole(none));
        }
    }

    private static void order() {
        PositHouse x = house(0x40, 0x41, NAR8);
        x.set(3, 32, 0x40000000);
        x.set(4, 16, 0xC000);
        x.set(5, 3, 4);
        due("order below", x.order(0, 1), -1);
        due("order above", x.order(1, 0), 1);
        due("order same of other widths", x.order(0, 3), 0);
        due("order minus", x.order(4, 0), -1);
        due("order with 0", x.order(4, 9), -1);
        due("order of NaR", x.order(2, 4), -1);
        due("order to NaR", x.order(4, 2), 1);
        due("order of two NaR", x.order(2, 5), 0);
        for (int none : NO_PLACE) {
            refuses("order of none", INDEX, h -> h.order(none, 0));
            refuses("order to none", INDEX, h -> h.order(0, none));
        }
    }

    // ---- promises 9 to 13

    private interface Act {
        void on(PositHouse x, int p, int q, int r);
    }

    private static long result(Act act, int a, int b) {
        PositHouse x = house(a, b, 0x55);
        act.on(x, 0, 1, 3);
        due("p stays", x.pattern(0), a);
        due("q stays", x.pattern(1), b);
        due("others stay", x.pattern(2), 0x55);
        return x.pattern(3);
    }

    private static void refusesPlaces(String what, Act act) {
        for (int none : NO_PLACE) {
            refuses(what + " of none", INDEX, h -> act.on(h, none, 0, 1));
            refuses(what + " with none", INDEX, h -> act.on(h, 0, none, 1));
            refuses(what + " to none", INDEX, h -> act.on(h, 0, 1, none));
        }
    }

    private static void nars(String what, Act act) {
        due(what + " NaR", result(act, NAR8, 0x40), NAR8);
        due(what + " with NaR", result(act, 0x40, NAR8), NAR8);
        due(what + " 0 and NaR", result(act, 0, NAR8), NAR8);
    }

    private static void addAndLess() {
        due("1 + 2", result(PositHouse::add, 0x40, 0x48), 0x4C);
        due("1 - 2", result(PositHouse::less, 0x40, 0x48), 0xC0);
        due("2 - 1", result(PositHouse::less, 0x48, 0x40), 0x40);
        due("1 - 1", result(PositHouse::less, 0x40, 0x40), 0);
        due("1 + -1", result(PositHouse::add, 0x40, 0xC0), 0);
        due("greatest + greatest", result(PositHouse::add, 0x7F, 0x7F), 0x7F);
        due("-greatest - greatest", result(PositHouse::less, 0x81, 0x7F), 0x81);
        due("1 + least", result(PositHouse::add, 0x40, 0x01), 0x40);
        due("0 + 0", result(PositHouse::add, 0, 0), 0);
        due("0 - 1", result(PositHouse::less, 0, 0x40), 0xC0);
        nars("add", PositHouse::add);
        nars("less", PositHouse::less);
        PositHouse x = house(0x4C, 0x48, 0);
        x.add(0, 0, 0);
        due("3 + 3 in its own place", x.pattern(0), 0x54);
        x.less(0, 1, 1);
        due("6 - 2 in q's place", x.pattern(1), 0x50);
        x.ratio(4, 1, 1);
        x.set(5, 32, 1);
        x.take(4, 6, 3);
        x.add(4, 5, 6);
        due("a tie is none with a little more", x.pattern(6), 2);
        x.ratio(4, 4, 1);
        x.add(4, 5, 6);
        due("a bound and 2^-120", x.pattern(6), 3);
        x.less(4, 5, 6);
        due("a bound less 2^-120", x.pattern(6), 2);
        refusesPlaces("add", PositHouse::add);
        refusesPlaces("less", PositHouse::less);
    }

    private static void timesAndOver() {
        due("3 * 2", result(PositHouse::times, 0x4C, 0x48), 0x54);
        due("-3 * 2", result(PositHouse::times, 0xB4, 0x48), 0xAC);
        due("-3 * -2", result(PositHouse::times, 0xB4, 0xB8), 0x54);
        due("least * least", result(PositHouse::times, 1, 1), 1);
        due("greatest * -greatest", result(PositHouse::times, 0x7F, 0x81), 0x81);
        due("0 * 3", result(PositHouse::times, 0, 0x4C), 0);
        due("3 / 2", result(PositHouse::over, 0x4C, 0x48), 0x44);
        due("-3 / 2", result(PositHouse::over, 0xB4, 0x48), 0xBC);
        due("0 / 2", result(PositHouse::over, 0, 0x48), 0);
        due("2 / 0", result(PositHouse::over, 0x48, 0), NAR8);
        due("0 / 0", result(PositHouse::over, 0, 0), NAR8);
        due("1 / 3", result(PositHouse::over, 0x40, 0x4C), 0x33);
        due("least / greatest", result(PositHouse::over, 1, 0x7F), 1);
        due("greatest / least", result(PositHouse::over, 0x7F, 1), 0x7F);
        nars("times", PositHouse::times);
        nars("over", PositHouse::over);
        PositHouse x = house(0x4C, 0x48, 0);
        x.times(0, 0, 0);
        due("3 * 3 in its own place", x.pattern(0), 0x59);
        x.over(0, 1, 0);
        due("9 / 2 in p's place", x.pattern(0), 0x51);
        refusesPlaces("times", PositHouse::times);
        refusesPlaces("over", PositHouse::over);
    }

    private static void fused() {
        PositHouse x = house(0x4C, 0x48, 0xB4);
        x.fused(0, 1, 2);
        due("3 * 2 - 3", x.pattern(2), 0x4C);
        x.fused(2, 2, 2);
        due("3 * 3 + 3", x.pattern(2), 0x5C);
        x = new PositHouse();
        x.ratio(0, 1, 3);
        x.ratio(1, 3, 1);
        x.ratio(2, -1, 1);
        x.fused(0, 1, 2);
        due("rounded once", x.pattern(2), 7340032);
        x = house(0x41, 0x41, 0);
        x.fused(0, 1, 2);
        due("with 0", x.pattern(2), 0x42);
        for (int i = 0; i < 3; i++) {
            x = house(i == 0 ? NAR8 : 0, i == 1 ? NAR8 : 0, i == 2 ? NAR8 : 0x40);
            x.fused(0, 1, 2);
            due("fused with a NaR", x.pattern(2), NAR8);
        }
        refusesPlaces("fused", PositHouse::fused);
    }

    // ---- promises 14 to 18

    private static long rootOf(int bits, int k) {
        PositHouse x = house(bits, 0, 0);
        x.root(0, k, 3);
        return x.pattern(3);
    }

    private static void root() {
        due("2nd root of 4", rootOf(0x50, 2), 0x48);
        due("3rd root of 8", rootOf(0x58, 3), 0x48);
        due("3rd root of -8", rootOf(0xA8, 3), 0xB8);
        due("4th root of 16", rootOf(0x60, 4), 0x48);
        due("1st root of 3", rootOf(0x4C, 1), 0x4C);
        due("1st root of -3", rootOf(0xB4, 1), 0xB4);
        due("2nd root of -4", rootOf(0xB0, 2), NAR8);
        due("8th root of -1", rootOf(0xC0, 8), NAR8);
        due("7th root of -1", rootOf(0xC0, 7), 0xC0);
        due("6th root of 0", rootOf(0, 6), 0);
        due("5th root of NaR", rootOf(NAR8, 5), NAR8);
        due("8th root of 2^-24", rootOf(1, 8), 0x28);
        due("6th root of 2^24", rootOf(0x7F, 6), 0x60);
        PositHouse x = new PositHouse();
        x.ratio(0, 2, 1);
        x.root(0, 2, 0);
        due("2nd root of 2", x.pattern(0), 1129336627);
        for (int none : NO_PLACE) {
            refuses("root of none", INDEX, h -> h.root(none, 2, 0));
            refuses("root to none", INDEX, h -> h.root(0, 2, none));
            refuses("no root to none", INDEX, h -> h.root(0, 9, none));
        }
        for (int k : new int[] {0, 9, -1, Integer.MAX_VALUE, Integer.MIN_VALUE}) {
            refuses("root " + k, ARGUMENT, h -> h.root(0, k, 1));
        }
    }

    private static long underOf(int bits) {
        PositHouse x = house(bits, 0, 0);
        x.under(0, 3);
        return x.pattern(3);
    }

    private static void under() {
        due("under 4", underOf(0x50), 0x38);
        due("under 1/4", underOf(0x30), 0x48);
        due("under 1", underOf(0x40), 0x40);
        due("under 0", underOf(0), NAR8);
        due("under -1", underOf(0xC0), NAR8);
        due("under NaR", underOf(NAR8), NAR8);
        due("under the least", underOf(1), 0x78);
        PositHouse x = new PositHouse();
        x.ratio(0, 2, 1);
        x.under(0, 0);
        due("under 2", x.pattern(0), 995118899);
        for (int none : NO_PLACE) {
            refuses("under none", INDEX, h -> h.under(none, 0));
            refuses("under to none", INDEX, h -> h.under(0, none));
        }
    }

    private static void far() {
        due("far 3 4", result(PositHouse::far, 0x4C, 0x50), 0x52);
        due("far -3 4", result(PositHouse::far, 0xB4, 0x50), 0x52);
        due("far 0 0", result(PositHouse::far, 0, 0), 0);
        due("far 0 -3", result(PositHouse::far, 0, 0xB4), 0x4C);
        due("far of the greatest", result(PositHouse::far, 0x7F, 0x7F), 0x7F);
        nars("far", PositHouse::far);
        PositHouse x = new PositHouse();
        x.set(0, 32, 0x7FFFFFFF);
        x.set(1, 32, 1);
        x.far(1, 1, 2);
        due("far of the least", x.pattern(2), 1);
        x.far(0, 1, 0);
        due("far 2^120 2^-120", x.pattern(0), 0x7FFFFFFF);
        x.ratio(0, 4, 1);
        x.set(2, 3, 0);
        x.far(0, 1, 2);
        due("a little above a bound", x.pattern(2), 3);
        x.far(0, 9, 2);
        due("at a bound", x.pattern(2), 2);
        refusesPlaces("far", PositHouse::far);
    }

    private static long powerOf(int bits, int k) {
        PositHouse x = house(bits, 0, 0);
        x.power(0, k, 3);
        return x.pattern(3);
    }

    private static void power() {
        due("2^3", powerOf(0x48, 3), 0x58);
        due("(-2)^3", powerOf(0xB8, 3), 0xA8);
        due("(-2)^2", powerOf(0xB8, 2), 0x50);
        due("2^-2", powerOf(0x48, -2), 0x30);
        due("(-2)^-1", powerOf(0xB8, -1), 0xC8);
        due("3^0", powerOf(0x4C, 0), 0x40);
        due("0^0", powerOf(0, 0), 0x40);
        due("0^5", powerOf(0, 5), 0);
        due("0^-1", powerOf(0, -1), NAR8);
        due("NaR^2", powerOf(NAR8, 2), NAR8);
        due("NaR^-2", powerOf(NAR8, -2), NAR8);
        due("NaR^0", powerOf(NAR8, 0), NAR8);
        due("greatest^16", powerOf(0x7F, 16), 0x7F);
        due("greatest^-16", powerOf(0x7F, -16), 1);
        due("(-greatest)^15", powerOf(0x81, 15), 0x81);
        PositHouse x = new PositHouse();
        x.ratio(0, 3, 1);
        x.power(0, 16, 0);
        due("3^16", x.whole(0), 43046721 / 8 * 8);
        for (int none : NO_PLACE) {
            refuses("power of none", INDEX, h -> h.power(none, 2, 0));
            refuses("power to none", INDEX, h -> h.power(0, 2, none));
            refuses("no power to none", INDEX, h -> h.power(0, 17, none));
        }
        for (int k : new int[] {17, -17, Integer.MAX_VALUE, Integer.MIN_VALUE}) {
            refuses("power " + k, ARGUMENT, h -> h.power(0, k, 1));
        }
    }

    private static long turned(int bits, int how) {
        PositHouse x = house(bits, 0, 0);
        x.turn(0, how);
        due("turn's width", x.width(0), 8);
        return x.pattern(0);
    }

    private static void turnedAll(int bits, int... want) {
        for (int how = 0; how < want.length; how++) {
            due("turn " + bits + " by " + how, turned(bits, how), want[how]);
        }
    }

    private static void turn() {
        turnedAll(0x44, 0xBC, 0x44, 0x40, 0x48, 0x40, 0x48, 0x45, 0x43);
        turnedAll(0xBC, 0x44, 0x44, 0xC0, 0xB8, 0xB8, 0xC0, 0xBD, 0xBB);
        turnedAll(0x4A, 0xB6, 0x4A, 0x40, 0x48, 0x48, 0x4C, 0x4B, 0x49);
        turnedAll(0x38, 0xC8, 0x38, 0x40, 0, 0, 0x40, 0x39, 0x37);
        turnedAll(0xC8, 0x38, 0x38, 0xC0, 0, 0xC0, 0, 0xC9, 0xC7);
        turnedAll(0x01, 0xFF, 0x01, 0x40, 0, 0, 0x40, 0x02, 0x00);
        turnedAll(0xFF, 0x01, 0x01, 0xC0, 0, 0xC0, 0, 0x00, 0xFE);
        turnedAll(0x7F, 0x81, 0x7F, 0x40, 0x7F, 0x7F, 0x7F, 0x80, 0x7E);
        turnedAll(0, 0, 0, 0, 0, 0, 0, 1, 0xFF);
        turnedAll(NAR8, NAR8, NAR8, NAR8, NAR8, NAR8, NAR8, 0x81, 0x7F);
        PositHouse x = new PositHouse();
        x.turn(8, 7);
        due("the greatest of 32 bits ahead of 0", x.pattern(8), 4294967295L);
        x.turn(8, 6);
        due("0 behind the greatest of 32 bits", x.pattern(8), 0);
        for (int none : NO_PLACE) {
            refuses("turn of none", INDEX, h -> h.turn(none, 0));
            refuses("no turn of none", INDEX, h -> h.turn(none, 8));
        }
        for (int how : new int[] {8, -1, Integer.MAX_VALUE, Integer.MIN_VALUE}) {
            refuses("turn " + how, ARGUMENT, h -> h.turn(0, how));
        }
    }

    // ---- promises 19 to 23

    private static void isImage(String what, PositHouse x, int k, int... want) {
        for (int i = 0; i < 16; i++) {
            due(what + ", word " + i, x.image(k, i), want[i]);
        }
    }

    private static void clear() {
        PositHouse x = furnished();
        x.clear(0);
        x.clear(1);
        isImage("cleared", x, 0, new int[16]);
        isImage("cleared of NaR", x, 1, new int[16]);
        due("another stays", x.image(3, 15), -1);
        x.gather(1, 0, 0, false);
        x.settle(1, 5);
        due("gathered after NaR was cleared", x.whole(5), 9);
        for (int none : NO_QUIRE) {
            refuses("clear none", INDEX, h -> h.clear(none));
        }
    }

    private static void gather() {
        PositHouse x = house(0x4C, 0x48, NAR8);
        int[] words = new int[16];
        x.gather(1, 0, 1, false);
        words[7] = 6 << 16;
        isImage("6", x, 1, words);
        x.gather(1, 0, 0, true);
        words[7] = -3 << 16;
        for (int i = 8; i < 16; i++) {
            words[i] = -1;
        }
        isImage("-3", x, 1, words);
        x.gather(1, 1, 3, true);
        isImage("-3 and 0", x, 1, words);
        x.gather(1, 2, 3, true);
        int[] nar = new int[16];
        nar[15] = Integer.MIN_VALUE;
        isImage("NaR", x, 1, nar);
        x.gather(1, 0, 0, false);
        x.dot(1, 0, 0, 2);
        isImage("NaR stays", x, 1, nar);
        isImage("others are 0", x, 0, new int[16]);
        x.set(4, 32, 1);
        x.set(5, 32, 0x7FFFFFFF);
        x.gather(2, 5, 5, false);
        x.gather(2, 4, 4, false);
        int[] wide = new int[16];
        wide[0] = 1;
        wide[15] = 1;
        isImage("2^240 and 2^-240", x, 2, wide);
        x.gather(2, 5, 5, true);
        wide[15] = 0;
        isImage("nothing was lost", x, 2, wide);
        for (int none : NO_PLACE) {
            refuses("gather none", INDEX, h -> h.gather(0, none, 0, true));
            refuses("gather with none", INDEX, h -> h.gather(0, 0, none, true));
        }
        for (int none : NO_QUIRE) {
            refuses("gather to none", INDEX, h -> h.gather(none, 0, 0, false));
        }
    }

    private static void dot() {
        PositHouse x = new PositHouse();
        for (int i = 0; i < 32; i++) {
            x.ratio(i, i + 1, 1);
        }
        x.dot(2, 0, 0, 32);
        x.settle(2, 0);
        due("the squares of 1 to 32", x.whole(0), 11440);
        x.dot(2, 29, 1, 3);
        x.settle(2, 0);
        due("and 30 * 2 + 31 * 3 + 32 * 4", x.whole(0), 11440 + 60 + 93 + 128);
        x.dot(3, 31, 31, 1);
        x.settle(3, 0);
        due("32 * 32", x.whole(0), 1024);
        x.dot(3, 31, 31, 0);
        x.dot(3, 5, 9, 0);
        x.settle(3, 0);
        due("none of them", x.whole(0), 1024);
        x.set(7, 32, Integer.MIN_VALUE);
        x.dot(3, 0, 9, 7);
        due("ahead of a NaR", x.image(3, 15), 0);
        x.dot(3, 0, 9, 8);
        due("with a NaR", x.image(3, 15), Integer.MIN_VALUE);
        for (int none : NO_PLACE) {
            refuses("dot of none", INDEX, h -> h.dot(0, none, 0, 1));
            refuses("dot with none", INDEX, h -> h.dot(0, 0, none, 1));
            refuses("dot of none, 0 of them", INDEX, h -> h.dot(0, none, 0, 0));
            refuses("dot with none, 0 of them", INDEX, h -> h.dot(0, 0, none, 0));
            refuses("dot of none, 33 of them", INDEX, h -> h.dot(0, none, 0, 33));
        }
        for (int none : NO_QUIRE) {
            refuses("dot to none", INDEX, h -> h.dot(none, 0, 0, 1));
            refuses("dot to none, 33 of them", INDEX, h -> h.dot(none, 0, 0, 33));
        }
        refuses("dot beyond the places", INDEX, h -> h.dot(0, 30, 0, 3));
        refuses("dot beyond the places of q", INDEX, h -> h.dot(0, 0, 30, 3));
        refuses("dot of 32 from 1", INDEX, h -> h.dot(0, 1, 0, 32));
        for (int n : new int[] {-1, 33, Integer.MAX_VALUE, Integer.MIN_VALUE}) {
            refuses("dot of " + n, ARGUMENT, h -> h.dot(0, 0, 0, n));
            refuses("dot of " + n + " beyond the places", ARGUMENT, h -> h.dot(0, 31, 31, n));
        }
    }

    private static void settle() {
        PositHouse x = house(0x4C, 0x48, NAR8);
        x.gather(0, 0, 1, true);
        x.settle(0, 3);
        due("settle -6", x.pattern(3), 0xAC);
        x.settle(0, 4);
        due("settle -6 of 32 bits", x.pattern(4), 0xAC000000L);
        due("settle leaves the quire", x.image(0, 15), -1);
        x.settle(1, 3);
        due("settle 0", x.pattern(3), 0);
        x.gather(1, 2, 0, false);
        x.settle(1, 3);
        due("settle NaR", x.pattern(3), NAR8);
        x.set(5, 32, 1);
        x.gather(2, 5, 5, false);
        x.settle(2, 3);
        due("settle 2^-240", x.pattern(3), 1);
        x.set(5, 32, 0x7FFFFFFF);
        x.gather(2, 5, 5, true);
        x.settle(2, 3);
        due("settle -2^240", x.pattern(3), 0x81);
        x.clear(2);
        x.set(5, 32, 1);
        x.ratio(6, 2, 1);
        x.set(3, 3, 0);
        x.gather(2, 6, 6, false);
        x.settle(2, 3);
        due("settle a bound", x.pattern(3), 2);
        x.gather(2, 5, 5, false);
        x.settle(2, 3);
        due("settle a bound and 2^-240", x.pattern(3), 3);
        for (int none : NO_PLACE) {
            refuses("settle to none", INDEX, h -> h.settle(0, none));
        }
        for (int none : NO_QUIRE) {
            refuses("settle none", INDEX, h -> h.settle(none, 0));
        }
    }

    private static void image() {
        PositHouse x = new PositHouse();
        x.set(0, 32, 1);
        x.set(1, 32, 0x7FFFFFFF);
        x.gather(0, 0, 0, true);
        for (int i = 0; i < 16; i++) {
            due("image of the least below 0", x.image(0, i), -1);
        }
        x.gather(1, 0, 1, false);
        int[] words = new int[16];
        words[7] = 1 << 16;
        isImage("1", x, 1, words);
        for (int none : NO_QUIRE) {
            refuses("image of none", INDEX, h -> h.image(none, 0));
            refuses("no image of none", INDEX, h -> h.image(none, 16));
        }
        for (int i : new int[] {-1, 16, Integer.MAX_VALUE, Integer.MIN_VALUE}) {
            refuses("image " + i, ARGUMENT, h -> h.image(0, i));
            refuses("image of NaR " + i, ARGUMENT, h -> h.image(1, i));
        }
    }

    // ---- promises 24 to 27

    private static void feed() {
        PositHouse x = new PositHouse();
        due("feed 8", x.feed(0x3837363534333231L, 8), 8);
        due("feed 1 of more", x.feed(0x3939L, 1), 9);
        due("read it", x.read(0), 0);
        x.ratio(1, 123456789, 1);
        due("the lowest byte came first", x.pattern(0), x.pattern(1));
        due("the tape is empty", x.feed(0, 2), 2);
        for (int i = 0; i < 9; i++) {
            x.feed(-1, 8);
        }
        due("up to 80", x.feed('0', 6), 80);
        for (int n : new int[] {0, 9, -1, Integer.MAX_VALUE, Integer.MIN_VALUE}) {
            refuses("feed " + n, ARGUMENT, h -> h.feed('7', n));
        }
        due("81 is too many", thrown(() -> x.feed('0', 1)), ARGUMENT.toString());
        due("88 is too many", thrown(() -> x.feed('0', 8)), ARGUMENT.toString());
        due("the first byte is wrong", x.read(0), -1);
        for (int i = 0; i < 9; i++) {
            x.feed(0x3030303030303030L, 8);
        }
        due("79", x.feed(0x30303030303030L, 7), 79);
        due("79 and 2", thrown(() -> x.feed('0', 2)), ARGUMENT.toString());
        due("79 and 1", x.feed('0', 1), 80);
    }

    private static String thrown(Runnable call) {
        try {
            call.run();
        } catch (RuntimeException e) {
            return e.getClass().toString();
        }
        return "nothing";
    }

    private static void reads(String text, int n, long want) {
        PositHouse x = new PositHouse();
        x.set(3, n, 5);
        say(x, text);
        due("read " + text, x.read(3), 0);
        due("pattern of " + text, x.pattern(3), want);
        due("width after " + text, x.width(3), n);
        due("tape after " + text, x.read(3), -1);
        due("pattern stays after " + text, x.pattern(3), want);
    }

    private static void read() {
        reads("1", 8, 0x40);
        reads("-1.5", 8, 0xBC);
        reads("0003", 8, 0x4C);
        reads("0.3e1", 8, 0x4C);
        reads("300e-2", 8, 0x4C);
        reads("3e+0", 8, 0x4C);
        reads("3e000", 8, 0x4C);
        reads("-0", 8, 0);
        reads("-0.000e-999", 8, 0);
        reads("0e999", 32, 0);
        reads("NaR", 8, NAR8);
        reads("NaR", 32, 2147483648L);
        reads("1e999", 32, 0x7FFFFFFF);
        reads("-1e999", 32, 0x80000001L);
        reads("1e-999", 32, 1);
        reads("-1e-999", 32, 0xFFFFFFFFL);
        reads("1.0625", 8, 0x40);
        reads("1.06250000000000000000000000000000000000000000000000000000001", 8, 0x41);
        reads("1.06249999999999999999999999999999999999999999999999999999999", 8, 0x40);
        reads("1.1875", 8, 0x42);
        reads("0.00000000000000000000000000000000000000000000000000000000001e59", 8, 0x40);
        reads("100000000000000000000000000000000000000000000000000000000000e-59", 8, 0x40);
        for (int none : NO_PLACE) {
            refuses("read to none", INDEX, h -> h.read(none));
        }
        PositHouse x = new PositHouse();
        say(x, "x");
        due("wrong text for none", thrown(() -> x.read(32)), INDEX.toString());
        due("the tape stayed", x.read(0), -1);
        due("the tape is empty", x.feed('1', 1), 1);
    }

    private static void wrongAt(String text, int at) {
        PositHouse x = new PositHouse();
        x.set(3, 8, 0x55);
        say(x, text);
        due("read " + text, x.read(3), -1 - at);
        due("pattern stays after " + text, x.pattern(3), 0x55);
        due("tape after " + text, x.feed('1', 1), 1);
        due("next text after " + text, x.read(3), 0);
        due("next pattern after " + text, x.pattern(3), 0x40);
    }

    private static void readWrong() {
        String sixty = "123456789012345678901234567890123456789012345678901234567890";
        wrongAt("", 0);
        wrongAt("-", 1);
        wrongAt("--1", 1);
        wrongAt("+1", 0);
        wrongAt(" 1", 0);
        wrongAt("1 ", 1);
        wrongAt(".5", 0);
        wrongAt("-.5", 1);
        wrongAt("1.", 2);
        wrongAt("1.e5", 2);
        wrongAt("1.5.", 3);
        wrongAt("1..5", 2);
        wrongAt("1e", 2);
        wrongAt("1e+", 3);
        wrongAt("1e-", 3);
        wrongAt("1e+-1", 3);
        wrongAt("1e--1", 3);
        wrongAt("1e1234", 5);
        wrongAt("1e-1234", 6);
        wrongAt("1e5.", 3);
        wrongAt("1e5e", 3);
        wrongAt("1E5", 1);
        wrongAt("e5", 0);
        wrongAt("N", 1);
        wrongAt("Na", 2);
        wrongAt("NR", 1);
        wrongAt("Nar", 2);
        wrongAt("NaRN", 3);
        wrongAt("NaR1", 3);
        wrongAt("-NaR", 1);
        wrongAt("nar", 0);
        wrongAt("1N", 1);
        wrongAt("1-", 1);
        wrongAt("1/2", 1);
        wrongAt("1:2", 1);
        wrongAt("\u00b1", 0);
        wrongAt("1\u0000", 1);
        wrongAt(sixty + "1", 60);
        wrongAt("-" + sixty + "1", 61);
        wrongAt("0." + sixty, 61);
        wrongAt(sixty + ".1", 61);
        wrongAt(sixty.substring(1) + ".12e5", 61);
        wrongAt("-" + sixty + "e+9999", 66);
        wrongAt(sixty + "x", 60);
    }

    private static void exact(int n, int bits, String want) {
        PositHouse x = new PositHouse();
        x.set(0, n, bits);
        due("exact " + bits + "/" + n, written(x, 0, false), want);
        due("pattern stays", x.pattern(0), bits & ((1L << n) - 1));
    }

    private static void writeExact() {
        exact(8, 0x40, "1");
        exact(8, 0xBC, "-1.5");
        exact(8, 0x38, "0.5");
        exact(8, 0xD0, "-0.25");
        exact(8, 0x45, "1.625");
        exact(8, 0, "0");
        exact(8, NAR8, "NaR");
        exact(3, 1, "0.0625");
        exact(3, 3, "16");
        exact(8, 0x7F, "16777216");
        exact(8, 0x81, "-16777216");
        exact(32, 0x7FFFFFFF, "1329227995784915872903807060280344576");
        exact(32, 1, "0.000000000000000000000000000000000000752316384526264005099991383822237233803945956334136013765601092"
            + "018187046051025390625");
        for (int none : NO_PLACE) {
            refuses("write none", INDEX, h -> h.write(none, false));
            refuses("write none short", INDEX, h -> h.write(none, true));
        }
    }

    private static void brief(int n, int bits, String want) {
        PositHouse x = new PositHouse();
        x.set(0, n, bits);
        due("short " + bits + "/" + n, written(x, 0, true), want);
    }

    private static void writeShort() {
        brief(8, 0, "0");
        brief(8, NAR8, "NaR");
        brief(8, 0x40, "1e0");
        brief(8, 0xC0, "-1e0");
        brief(8, 0x44, "1.5e0");
        brief(8, 0x4A, "2.5e0");
        brief(8, 0x60, "1.6e1");
        brief(8, 0x33, "3.4e-1");
        brief(3, 1, "6e-2");
        brief(3, 2, "1e0");
        brief(3, 3, "2e1");
        brief(3, 5, "-2e1");
        brief(3, 7, "-6e-2");
        brief(4, 3, "2e-1");
        brief(4, 5, "4e0");
        brief(5, 0xA, "4e0");
        brief(4, 13, "-2e-1");
        brief(6, 0x11, "1.5e0");
        brief(32, 0x7FFFFFFF, "1e36");
        brief(32, 0x80000001, "-1e36");
        brief(32, 1, "8e-37");
        brief(32, 850045611, "3.33333334e-1");
    }

    private static void letter() {
        PositHouse x = furnished();
        PositHouse y = new PositHouse();
        y.ratio(0, -1, 4);
        due("the length", y.write(0, false), 5);
        String text = "-0.25";
        for (int i = 0; i < 5; i++) {
            due("letter " + i, y.letter(i), text.charAt(i));
        }
        for (int i : new int[] {-1, 5, 159, 160, Integer.MAX_VALUE, Integer.MIN_VALUE}) {
            due("letter " + i, y.letter(i), -1);
        }
        due("a shorter text", y.write(1, false), 1);
        due("its letter", y.letter(0), '0');
        due("none of the old ones", y.letter(1), -1);
        due("another object's", x.letter(0), '-');
        due("reading is not writing", y.read(0), -1);
        due("the letter stays", y.letter(0), '0');
    }
}
