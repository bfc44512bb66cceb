/** Houses to test with, and what tests ask of them. */
final class Houses {
    static final Class<?> INDEX = IndexOutOfBoundsException.class;
    static final Class<?> ARGUMENT = IllegalArgumentException.class;
    static final Class<?> ARITHMETIC = ArithmeticException.class;
    static final int[] NO_PLACE = {-1, 32, Integer.MIN_VALUE, Integer.MAX_VALUE};
    static final int[] NO_QUIRE = {-1, 4, Integer.MIN_VALUE, Integer.MAX_VALUE};

    /** Patterns of width 32; one more or less is the nearest number above or below. */
    static final int NAR = Integer.MIN_VALUE;
    static final int LEAST = 1;
    static final int GREATEST = Integer.MAX_VALUE;
    static final int SIXTEENTH = 0x20000000;
    static final int QUARTER = 0x30000000;
    static final int HALF = 0x38000000;
    static final int ONE = 0x40000000;
    static final int TWO = 0x48000000;
    static final int THREE = 0x4C000000;
    static final int FOUR = 0x50000000;
    static final int SIXTEEN = 0x60000000;

    private Houses() {
    }

    interface Call {
        void on(PositHouse x);
    }

    interface Act {
        void on(PositHouse x, int p, int q, int r);
    }

    /** Something stands everywhere, so that every change is seen; the tape is 12. */
    static PositHouse furnished() {
        PositHouse x = new PositHouse();
        for (int i = 0; i < 32; i++) {
            x.set(i, 3 + i % 30, 0x2545F491 * (i + 1));
        }
        x.set(0, 8, 0x4C);
        x.set(1, 16, 0x5000);
        x.set(2, 32, NAR);
        x.gather(0, 0, 1, false);
        x.gather(1, 2, 0, false);
        x.gather(2, 0, 1, true);
        x.gather(3, 31, 30, false);
        x.write(0, true);
        x.feed('1' | '2' << 8, 2);
        return x;
    }

    static String state(PositHouse x) {
        StringBuilder text = new StringBuilder();
        for (int p = 0; p < 32; p++) {
            text.append(x.pattern(p)).append('/').append(x.width(p)).append(' ');
        }
        for (int k = 0; k < 4; k++) {
            for (int i = 0; i < 16; i++) {
                text.append(x.image(k, i)).append(' ');
            }
        }
        for (int i = 0; i < 6; i++) {
            text.append(x.letter(i)).append(' ');
        }
        return text.toString();
    }

    static String thrown(PositHouse x, Call call) {
        try {
            call.on(x);
        } catch (RuntimeException e) {
            return e.getClass().getName();
        }
        return "nothing";
    }

    /** The call throws just that, and places, quires, what was written and the tape stay. */
    static void refused(String what, Class<?> want, Call call) {
        PositHouse x = furnished();
        String before = state(x);
        Sentences.due(what + " throws", thrown(x, call), want.getName());
        Sentences.due(what + ", state after it", state(x), before);
        Sentences.due(what + ", tape after it", x.feed('3', 1), 3);
        x.set(5, 32, 0);
        Sentences.due(what + ", tape read after it", x.read(5), 0);
        Sentences.due(what + ", number on the tape after it", x.whole(5), 123);
    }

    static void refusedPlaces(String what, Act act) {
        for (int none : NO_PLACE) {
            refused(what + " with p " + none, INDEX, x -> act.on(x, none, 0, 1));
            refused(what + " with q " + none, INDEX, x -> act.on(x, 0, none, 1));
            refused(what + " with r " + none, INDEX, x -> act.on(x, 0, 1, none));
        }
    }

    /** These patterns of width n stand at places 0, 1, ... */
    static PositHouse of(int n, int... bits) {
        PositHouse x = new PositHouse();
        for (int i = 0; i < bits.length; i++) {
            x.set(i, n, bits[i]);
        }
        return x;
    }

    /** What place 9, of width n and with the pattern old, becomes by a call; a and b, of width 32, are at 0 and 1. */
    static long becomes(int n, int old, int a, int b, Call call) {
        PositHouse x = of(32, a, b);
        x.set(9, n, old);
        call.on(x);
        Sentences.due("the width of what became", x.width(9), n);
        Sentences.due("the pattern of p", x.pattern(0), a & 0xFFFFFFFFL);
        Sentences.due("the pattern of q", x.pattern(1), b & 0xFFFFFFFFL);
        return x.pattern(9);
    }

    /** Width 3 has 1/16, 1 and 16; between them 1/4 and 4 are where the roundings part, and both go to 1. */
    static long small(int a, int b, Act act) {
        return becomes(3, 0, a, b, x -> act.on(x, 0, 1, 9));
    }

    static void say(PositHouse x, String text) {
        for (int i = 0; i < text.length(); i += 8) {
            long eight = 0;
            int n = Math.min(8, text.length() - i);
            for (int j = n - 1; j >= 0; j--) {
                eight = eight << 8 | text.charAt(i + j);
            }
            x.feed(eight, n);
        }
    }

    static String written(PositHouse x, int p, boolean brief) {
        int count = x.write(p, brief);
        StringBuilder text = new StringBuilder();
        for (int i = 0; i < count; i++) {
            text.append((char) x.letter(i));
        }
        return text.toString();
    }

    static String exact(int n, long pattern) {
        return written(of(n, (int) pattern), 0, false);
    }

    static String brief(int n, long pattern) {
        return written(of(n, (int) pattern), 0, true);
    }
}
