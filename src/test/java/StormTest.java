import java.util.Random;

/** Runs of 512 drawn calls: only the document's exceptions are thrown, and each by a throw statement. */
public final class StormTest {
    private static final Random DRAW = new Random(27);
    private static final int[] EXTREMES = {-1, 32, 33, 80, Integer.MIN_VALUE, Integer.MAX_VALUE};
    private static final String LETTERS = "0123456789012345678901234567890123456789..ee+--NaR\u00ff";

    private static int wrong = 0;

    public static void main(String[] args) {
        for (int run = 0; run < 1500; run++) {
            PositHouse x = new PositHouse();
            for (int i = 0; i < 512; i++) {
                int which = DRAW.nextInt(26);
                try {
                    call(x, which);
                } catch (RuntimeException e) {
                    judge(which, e);
                }
            }
        }
        System.out.println(wrong == 0 ? "no storm harmed the house" : wrong + " faults");
        System.exit(wrong == 0 ? 0 : 1);
    }

    private static void judge(int which, RuntimeException e) {
        Class<?> kind = e.getClass();
        boolean known = kind == IndexOutOfBoundsException.class || kind == IllegalArgumentException.class
            || (kind == ArithmeticException.class && which == 5);
        if (!known || !e.getStackTrace()[0].getClassName().startsWith("PositHouse")) {
            wrong++;
            e.printStackTrace(System.out);
        }
    }

    private static int drawn(int below) {
        return DRAW.nextInt(60) == 0 ? EXTREMES[DRAW.nextInt(EXTREMES.length)] : DRAW.nextInt(below);
    }

    private static int place() {
        return drawn(32);
    }

    private static long bytes() {
        long eight = 0;
        for (int i = 0; i < 8; i++) {
            eight = eight << 8 | LETTERS.charAt(DRAW.nextInt(LETTERS.length()));
        }
        return eight;
    }

    private static void call(PositHouse x, int which) {
        switch (which) {
            case 0: x.set(place(), 3 + drawn(30), DRAW.nextInt() >> DRAW.nextInt(32)); break;
            case 1: inside("pattern", x.pattern(place()), 0, 4294967295L); break;
            case 2: inside("width", x.width(place()), 3, 32); break;
            case 3: x.take(place(), place(), 3 + drawn(30)); break;
            case 4: x.ratio(place(), DRAW.nextLong() >> DRAW.nextInt(64), DRAW.nextLong() >> DRAW.nextInt(64)); break;
            case 5: x.whole(place()); break;
            case 6: inside("order", x.order(place(), place()), -1, 1); break;
            case 7: x.add(place(), place(), place()); break;
            case 8: x.less(place(), place(), place()); break;
            case 9: x.times(place(), place(), place()); break;
            case 10: x.over(place(), place(), place()); break;
            case 11: x.fused(place(), place(), place()); break;
            case 12: x.root(place(), 1 + drawn(8), place()); break;
            case 13: x.under(place(), place()); break;
            case 14: x.far(place(), place(), place()); break;
            case 15: x.power(place(), drawn(33) - 16, place()); break;
            case 16: x.turn(place(), drawn(8)); break;
            case 17: x.clear(drawn(4)); break;
            case 18: x.gather(drawn(4), place(), place(), DRAW.nextBoolean()); break;
            case 19: x.dot(drawn(4), place(), place(), drawn(33)); break;
            case 20: x.settle(drawn(4), place()); break;
            case 21: x.image(drawn(4), drawn(16)); break;
            case 22: inside("feed", x.feed(bytes(), 1 + drawn(8)), 1, 80); break;
            case 23: inside("read", x.read(place()), -81, 0); break;
            case 24: inside("write", x.write(place(), DRAW.nextBoolean()), 1, 123); break;
            default: inside("letter", x.letter(drawn(130)), -1, 255); break;
        }
    }

    private static void inside(String what, long got, long least, long most) {
        if (got < least || got > most) {
            wrong++;
            System.out.println(what + " answered " + got);
        }
    }
}
