/**
 * A house of 32 posits and four quires. Every act reckons the exact value (or enough leading bits of it and
 * whether anything is left behind them) and rounds once. All rows are made in the constructors; no call makes
 * an object.
 */
public final class PositHouse {
    private static final int PLACES = 32;
    private static final int QUIRES = 4;
    private static final int LEAST_WIDTH = 3;
    private static final int MOST_WIDTH = 32;
    private static final int MOST_ROOT = 8;
    private static final int MOST_POWER = 16;

    private final int[] widths;
    private final long[] patterns;
    private final Quire[] quires;
    private final Posit left;
    private final Posit right;
    private final Posit third;
    private final Acts acts;
    private final Tape tape;
    private final Page page;

    public PositHouse() {
        widths = new int[PLACES];
        patterns = new long[PLACES];
        for (int i = 0; i < PLACES; i++) {
            widths[i] = MOST_WIDTH;
        }
        quires = new Quire[QUIRES];
        for (int i = 0; i < QUIRES; i++) {
            quires[i] = new Quire();
        }
        left = new Posit();
        right = new Posit();
        third = new Posit();
        acts = new Acts();
        tape = new Tape();
        page = new Page();
    }

    // ---- places

    public void set(int r, int n, int bits) throws IndexOutOfBoundsException, IllegalArgumentException {
        checkPlace(r);
        checkWidth(n);
        widths[r] = n;
        patterns[r] = bits & Rounding.greatest(n);
    }

    public long pattern(int p) throws IndexOutOfBoundsException {
        checkPlace(p);
        return patterns[p];
    }

    public int width(int p) throws IndexOutOfBoundsException {
        checkPlace(p);
        return widths[p];
    }

    public void take(int p, int r, int n) throws IndexOutOfBoundsException, IllegalArgumentException {
        checkPlace(p);
        checkPlace(r);
        checkWidth(n);
        left.load(patterns[p], widths[p]);
        widths[r] = n;
        patterns[r] = acts.same(left, n);
    }

    public void ratio(int r, long a, long b) throws IndexOutOfBoundsException {
        checkPlace(r);
        patterns[r] = acts.ratioOf(a, b, widths[r]);
    }

    public long whole(int p) throws IndexOutOfBoundsException, ArithmeticException {
        checkPlace(p);
        left.load(patterns[p], widths[p]);
        if (left.nar || left.passesLong()) {
            throw new ArithmeticException("no whole number that a long holds");
        }
        return left.nearestLong();
    }

    public int order(int p, int q) throws IndexOutOfBoundsException {
        checkPlace(p);
        checkPlace(q);
        return Long.compare(rank(p), rank(q));
    }

    // ---- acts

    public void add(int p, int q, int r) throws IndexOutOfBoundsException {
        loadBoth(p, q, r);
        patterns[r] = acts.sumOf(left, right, false, widths[r]);
    }

    public void less(int p, int q, int r) throws IndexOutOfBoundsException {
        loadBoth(p, q, r);
        patterns[r] = acts.sumOf(left, right, true, widths[r]);
    }

    public void times(int p, int q, int r) throws IndexOutOfBoundsException {
        loadBoth(p, q, r);
        patterns[r] = acts.productOf(left, right, widths[r]);
    }

    public void over(int p, int q, int r) throws IndexOutOfBoundsException {
        loadBoth(p, q, r);
        patterns[r] = acts.quotientOf(left, right, widths[r]);
    }

    public void fused(int p, int q, int r) throws IndexOutOfBoundsException {
        loadBoth(p, q, r);
        third.load(patterns[r], widths[r]);
        patterns[r] = acts.fusedOf(left, right, third, widths[r]);
    }

    public void root(int p, int k, int r) throws IndexOutOfBoundsException, IllegalArgumentException {
        checkPlace(p);
        checkPlace(r);
        if (k < 1 || k > MOST_ROOT) {
            throw new IllegalArgumentException("no such root");
        }
        left.load(patterns[p], widths[p]);
        patterns[r] = acts.rootOf(left, k, widths[r]);
    }

    public void under(int p, int r) throws IndexOutOfBoundsException {
        checkPlace(p);
        checkPlace(r);
        left.load(patterns[p], widths[p]);
        patterns[r] = acts.inverseRootOf(left, widths[r]);
    }

    public void far(int p, int q, int r) throws IndexOutOfBoundsException {
        loadBoth(p, q, r);
        patterns[r] = acts.distanceOf(left, right, widths[r]);
    }

    public void power(int p, int k, int r) throws IndexOutOfBoundsException, IllegalArgumentException {
        checkPlace(p);
        checkPlace(r);
        if (k < -MOST_POWER || k > MOST_POWER) {
            throw new IllegalArgumentException("no such power");
        }
        left.load(patterns[p], widths[p]);
        patterns[r] = acts.powerOf(left, k, widths[r]);
    }

    public void turn(int r, int how) throws IndexOutOfBoundsException, IllegalArgumentException {
        checkPlace(r);
        if (how < 0 || how > 7) {
            throw new IllegalArgumentException("no such turn");
        }
        patterns[r] = turned(patterns[r], widths[r], how);
    }

    // ---- quires

    public void clear(int k) throws IndexOutOfBoundsException {
        checkQuire(k);
        quires[k].empty();
    }

    public void gather(int k, int p, int q, boolean minus) throws IndexOutOfBoundsException {
        checkQuire(k);
        loadBoth(p, q, q);
        quires[k].bring(left, right, minus);
    }

    public void dot(int k, int p, int q, int n) throws IndexOutOfBoundsException, IllegalArgumentException {
        checkQuire(k);
        checkPlace(p);
        checkPlace(q);
        if (n < 0 || n > PLACES) {
            throw new IllegalArgumentException("no such count of products");
        }
        if (n > 0) {
            checkPlace(p + n - 1);
            checkPlace(q + n - 1);
        }
        for (int i = 0; i < n; i++) {
            loadBoth(p + i, q + i, q);
            quires[k].bring(left, right, false);
        }
    }

    public void settle(int k, int r) throws IndexOutOfBoundsException {
        checkQuire(k);
        checkPlace(r);
        patterns[r] = acts.settled(quires[k], widths[r]);
    }

    public int image(int k, int i) throws IndexOutOfBoundsException, IllegalArgumentException {
        checkQuire(k);
        if (i < 0 || i >= Quire.WORDS) {
            throw new IllegalArgumentException("no such word of an image");
        }
        return quires[k].wordOfImage(i);
    }

    // ---- texts

    public int feed(long eight, int n) throws IllegalArgumentException {
        if (n < 1 || n > 8 || tape.count + n > Tape.ROOM) {
            throw new IllegalArgumentException("no such bytes, or no room for them");
        }
        for (int i = 0; i < n; i++) {
            tape.append((int) (eight >>> (8 * i)) & 255);
        }
        return tape.count;
    }

    public int read(int r) throws IndexOutOfBoundsException {
        checkPlace(r);
        boolean fine = tape.scan();
        tape.count = 0;
        if (!fine) {
            return -1 - tape.at;
        }
        int n = widths[r];
        patterns[r] = tape.nar ? Rounding.notReal(n) : acts.decimalOf(tape.digits, tape.tens, tape.minus, n);
        return 0;
    }

    public int write(int p, boolean brief) throws IndexOutOfBoundsException {
        checkPlace(p);
        left.load(patterns[p], widths[p]);
        if (left.nar) {
            page.putNaR();
        } else if (left.significand == 0) {
            page.putNought();
        } else if (brief) {
            page.putShort(left, patterns[p], widths[p]);
        } else {
            page.putFull(left);
        }
        return page.count;
    }

    public int letter(int i) {
        return i >= 0 && i < page.count ? page.byteAt(i) : -1;
    }

    // ---- what the calls share

    private static void checkPlace(int p) {
        if (p < 0 || p >= PLACES) {
            throw new IndexOutOfBoundsException("no such place");
        }
    }

    private static void checkQuire(int k) {
        if (k < 0 || k >= QUIRES) {
            throw new IndexOutOfBoundsException("no such quire");
        }
    }

    private static void checkWidth(int n) {
        if (n < LEAST_WIDTH || n > MOST_WIDTH) {
            throw new IllegalArgumentException("no such width");
        }
    }

    private void loadBoth(int p, int q, int r) {
        checkPlace(p);
        checkPlace(q);
        checkPlace(r);
        left.load(patterns[p], widths[p]);
        right.load(patterns[q], widths[q]);
    }

    /** Noughts behind a pattern leave its value as it is, so patterns of 64 bits stand as their values do. */
    private long rank(int p) {
        return patterns[p] << (64 - widths[p]);
    }

    private long turned(long bits, int n, int how) {
        long most = Rounding.greatest(n);
        left.load(bits, n);
        switch (how) {
            case 0:
                return -bits & most;
            case 1:
                return left.minus ? -bits & most : bits;
            case 2:
                return left.nar || left.significand == 0 ? bits : Rounding.ofLong(n, left.minus, 1, 0, false);
            case 6:
                return (bits + 1) & most;
            case 7:
                return (bits - 1) & most;
            default:
                return turnedWhole(bits, n, how);
        }
    }

    private long turnedWhole(long bits, int n, int how) {
        if (left.isWhole()) {
            return bits;
        }
        long size;
        if (how == 3) {
            size = left.nearestSize();
        } else {
            boolean away = (how == 4) == left.minus;
            size = left.sizeDown() + (away ? 1 : 0);
        }
        return Rounding.ofLong(n, left.minus, size, 0, false);
    }

    /** Term 2: the one pattern of a real number. */
    private static final class Rounding {
        private static final int FRACTION = 30;

        private Rounding() {
        }

        static long greatest(int n) {
            return (1L << n) - 1;
        }

        static long notReal(int n) {
            return 1L << (n - 1);
        }

        /** Of significand times 2^exponent; more: the number is a little greater than that. */
        static long ofLong(int n, boolean minus, long significand, int exponent, boolean more) {
            if (significand <= 0) {
                return 0;
            }
            int top = 63 - Long.numberOfLeadingZeros(significand);
            int drop = top - FRACTION;
            long kept = drop > 0 ? significand >>> drop : significand << -drop;
            boolean lost = drop > 0 && (kept << drop) != significand;
            long u = ofSize(n, exponent + top, kept, more || lost);
            return minus ? (1L << n) - u : u;
        }

        static long ofWide(int n, boolean minus, Wide size, int exponent) {
            int low = Math.max(0, size.bits() - 62);
            return ofLong(n, minus, size.window(low), exponent + low, size.anyBelow(low));
        }

        /**
         * Of kept / 2^30 times 2^scale, kept having 31 bits. A pattern of width n + 1 is one of width n and a bit
         * more, so the bound w lies where the bits behind the pattern are a 1 and noughts.
         */
        private static long ofSize(int n, int scale, long kept, boolean more) {
            if (scale >= 4 * (n - 2)) {
                return greatest(n - 1);
            }
            if (scale < -4 * (n - 2)) {
                return 1;
            }
            int r = scale >> 2;
            int runBits = r >= 0 ? r + 2 : 1 - r;
            long run = r >= 0 ? greatest(r + 1) << 1 : 1;
            long tail = ((long) (scale & 3) << FRACTION) | (kept & greatest(FRACTION));
            long all = (run << (FRACTION + 2)) | tail;
            int drop = runBits + FRACTION + 2 - (n - 1);
            long u = all >>> drop;
            long rest = all & greatest(drop);
            long half = 1L << (drop - 1);
            boolean up = rest > half || (rest == half && (more || (u & 1) == 1));
            return up ? u + 1 : u;
        }
    }

    /** A pattern taken apart: significand (odd, or 0 of 0 and of NaR) times 2^exponent, and the sign. */
    private static final class Posit {
        boolean nar;
        boolean minus;
        long significand;
        int exponent;

        Posit() {
        }

        /** The widths go up to 33: the bounds of the rounding are patterns of one bit more. */
        void load(long pattern, int n) {
            long middle = 1L << (n - 1);
            nar = pattern == middle;
            minus = pattern > middle;
            significand = 0;
            exponent = 0;
            if (nar || pattern == 0) {
                return;
            }
            long bits = (minus ? (1L << n) - pattern : pattern) << (65 - n);
            int k = Long.numberOfLeadingZeros(bits < 0 ? ~bits : bits);
            int r = bits < 0 ? k - 1 : -k;
            long rest = bits << (k + 1);
            int e = (int) (rest >>> 62);
            long full = (1L << 28) | ((rest << 2) >>> 36);
            int spare = Long.numberOfTrailingZeros(full);
            significand = full >>> spare;
            exponent = 4 * r + e - 28 + spare;
        }

        void loadOne() {
            nar = false;
            minus = false;
            significand = 1;
            exponent = 0;
        }

        int scale() {
            return exponent + 63 - Long.numberOfLeadingZeros(significand);
        }

        /** The significand is odd, so with an exponent below 0 there is always a fraction. */
        boolean isWhole() {
            return exponent >= 0;
        }

        long sizeDown() {
            return exponent > -63 ? significand >>> -exponent : 0;
        }

        /** For a number that isn't whole: the nearest whole size, of two the even one. */
        long nearestSize() {
            if (exponent < -30) {
                return 0;
            }
            long down = sizeDown();
            long twice = (significand - (down << -exponent)) << 1;
            long one = 1L << -exponent;
            return twice > one || (twice == one && (down & 1) == 1) ? down + 1 : down;
        }

        boolean passesLong() {
            boolean least = minus && significand == 1 && exponent == 63;
            return significand != 0 && scale() > 62 && !least;
        }

        long nearestLong() {
            long size = isWhole() ? significand << exponent : nearestSize();
            return minus ? -size : size;
        }
    }

    /** A whole number from 0 on, of up to 512 bits; the word at used - 1 is never 0. */
    private static final class Wide {
        private static final int WORDS = 16;
        private static final long LOW = 0xFFFFFFFFL;

        private final int[] words;
        private int used;

        Wide() {
            words = new int[WORDS];
        }

        void put(long unsigned) {
            words[0] = (int) unsigned;
            words[1] = (int) (unsigned >>> 32);
            used = 2;
            trim();
        }

        void copy(Wide other) {
            System.arraycopy(other.words, 0, words, 0, other.used);
            used = other.used;
        }

        /** Takes a row of 16 words, or minus it, two's complement. */
        void copyWords(int[] row, boolean negated) {
            long carry = negated ? 1 : 0;
            for (int i = 0; i < WORDS && i < row.length; i++) {
                long sum = ((negated ? ~row[i] : row[i]) & LOW) + carry;
                words[i] = (int) sum;
                carry = sum >>> 32;
            }
            used = WORDS;
            trim();
        }

        boolean isNought() {
            return used == 0;
        }

        int bits() {
            return used == 0 ? 0 : 32 * used - Integer.numberOfLeadingZeros(words[used - 1]);
        }

        /** It times factor and extra; both are below 2^32. */
        void grow(long factor, long extra) {
            long carry = extra;
            for (int i = 0; i < used; i++) {
                long product = (words[i] & LOW) * factor + carry;
                words[i] = (int) product;
                carry = product >>> 32;
            }
            if (carry != 0 && used < WORDS) {
                words[used] = (int) carry;
                used++;
            }
            trim();
        }

        void growOften(long factor, int often) {
            for (int i = 0; i < often; i++) {
                grow(factor, 0);
            }
        }

        void shiftUp(int by) {
            int whole = by >> 5;
            int part = by & 31;
            for (int i = WORDS - 1; i >= 0; i--) {
                long pair = (wordAt(i - whole) << 32) | wordAt(i - whole - 1);
                words[i] = (int) ((pair << part) >>> 32);
            }
            used = WORDS;
            trim();
        }

        /** Takes away a number that isn't greater. */
        void lower(Wide other) {
            long carry = 0;
            for (int i = 0; i < used; i++) {
                long difference = (words[i] & LOW) - other.wordAt(i) + carry;
                words[i] = (int) difference;
                carry = difference >> 32;
            }
            trim();
        }

        /** Divides it by ten: what is left. */
        int cutDigit() {
            long rest = 0;
            for (int i = used - 1; i >= 0; i--) {
                long here = (rest << 32) | (words[i] & LOW);
                words[i] = (int) (here / 10);
                rest = here % 10;
            }
            trim();
            return (int) rest;
        }

        int against(Wide other) {
            if (used != other.used) {
                return used < other.used ? -1 : 1;
            }
            for (int i = used - 1; i >= 0; i--) {
                long here = words[i] & LOW;
                long there = other.words[i] & LOW;
                if (here != there) {
                    return here < there ? -1 : 1;
                }
            }
            return 0;
        }

        /** The 64 bits from bit low on. */
        long window(int low) {
            int whole = low >> 5;
            int part = low & 31;
            long pair = (wordAt(whole + 1) << 32) | wordAt(whole);
            return part == 0 ? pair : (pair >>> part) | (wordAt(whole + 2) << (64 - part));
        }

        boolean anyBelow(int low) {
            int whole = low >> 5;
            for (int i = 0; i < whole && i < used; i++) {
                if (words[i] != 0) {
                    return true;
                }
            }
            return (wordAt(whole) & ((1L << (low & 31)) - 1)) != 0;
        }

        private long wordAt(int i) {
            return i >= 0 && i < used ? words[i] & LOW : 0;
        }

        private void trim() {
            for (int i = used - 1; i >= 0 && words[i] == 0; i--) {
                used = i;
            }
        }
    }

    /** A sum of products in units of 2^-240: posits are whole numbers of units of 2^-120. */
    private static final class Quire {
        static final int WORDS = 16;
        static final int UNIT = 240;
        private static final long LOW = 0xFFFFFFFFL;

        private final int[] words;
        boolean nar;

        Quire() {
            words = new int[WORDS];
        }

        void empty() {
            nar = false;
            for (int i = 0; i < WORDS; i++) {
                words[i] = 0;
            }
        }

        void bring(Posit a, Posit b, boolean away) {
            nar = nar || a.nar || b.nar;
            if (nar) {
                return;
            }
            long product = a.significand * b.significand;
            int shift = a.exponent + b.exponent + UNIT;
            boolean down = away ^ a.minus ^ b.minus;
            long carry = 0;
            for (int i = 0; i < WORDS; i++) {
                long part = partOf(product, 32 * i - shift);
                long sum = (words[i] & LOW) + (down ? -part : part) + carry;
                words[i] = (int) sum;
                carry = sum >> 32;
            }
        }

        /** The 32 bits of a product from bit low on; below bit 0 they are noughts. */
        private static long partOf(long product, int low) {
            if (low <= -32 || low >= 64) {
                return 0;
            }
            return (low < 0 ? product << -low : product >>> low) & LOW;
        }

        boolean isMinus() {
            return words[WORDS - 1] < 0;
        }

        void copySize(Wide target) {
            target.copyWords(words, isMinus());
        }

        int wordOfImage(int i) {
            if (nar) {
                return i == WORDS - 1 ? Integer.MIN_VALUE : 0;
            }
            return i >= 0 && i < WORDS ? words[i] : 0;
        }
    }

    /** Seeks leading bits of quotients and roots by trying them, the highest first. */
    private static final class Seeker {
        final Wide factor;
        final Wide bound;
        private final Wide trial;
        boolean more;

        Seeker() {
            factor = new Wide();
            bound = new Wide();
            trial = new Wide();
        }

        /** The greatest s below 2^32 of which factor times s^k isn't above bound; more: it is below. */
        long seek(int k) {
            long found = 0;
            more = true;
            for (int bit = 31; bit >= 0; bit--) {
                long tried = found | (1L << bit);
                trial.copy(factor);
                trial.growOften(tried, k);
                int how = trial.against(bound);
                if (how <= 0) {
                    found = tried;
                    more = how < 0;
                }
            }
            return found;
        }
    }

    /** What the acts give, as patterns of a width n. */
    private static final class Acts {
        private static final int HALF_UNIT = Quire.UNIT / 2;
        private static final int MOST_TENS = 40;
        private static final int LEAST_TENS = -100;

        private final Quire pile;
        private final Posit one;
        private final Wide upper;
        private final Wide lower;
        private final Seeker seeker;

        Acts() {
            pile = new Quire();
            one = new Posit();
            one.loadOne();
            upper = new Wide();
            lower = new Wide();
            seeker = new Seeker();
        }

        long same(Posit a, int n) {
            return a.nar ? Rounding.notReal(n) : Rounding.ofLong(n, a.minus, a.significand, a.exponent, false);
        }

        long settled(Quire quire, int n) {
            if (quire.nar) {
                return Rounding.notReal(n);
            }
            quire.copySize(upper);
            return Rounding.ofWide(n, quire.isMinus(), upper, -Quire.UNIT);
        }

        long sumOf(Posit a, Posit b, boolean minus, int n) {
            pile.empty();
            pile.bring(a, one, false);
            pile.bring(b, one, minus);
            return settled(pile, n);
        }

        long fusedOf(Posit a, Posit b, Posit c, int n) {
            pile.empty();
            pile.bring(a, b, false);
            pile.bring(c, one, false);
            return settled(pile, n);
        }

        long productOf(Posit a, Posit b, int n) {
            if (a.nar || b.nar) {
                return Rounding.notReal(n);
            }
            int exponent = a.exponent + b.exponent;
            return Rounding.ofLong(n, a.minus ^ b.minus, a.significand * b.significand, exponent, false);
        }

        long quotientOf(Posit a, Posit b, int n) {
            if (a.nar || b.nar || b.significand == 0) {
                return Rounding.notReal(n);
            }
            upper.put(a.significand);
            lower.put(b.significand);
            return divided(a.exponent - b.exponent, a.minus ^ b.minus, n);
        }

        long ratioOf(long a, long b, int n) {
            if (b == 0) {
                return Rounding.notReal(n);
            }
            upper.put(a < 0 ? -a : a);
            lower.put(b < 0 ? -b : b);
            return divided(0, (a < 0) ^ (b < 0), n);
        }

        /** Of the k-th root, scaled by 2^lift, 31 bits are whole, and so is what it is the root of. */
        long rootOf(Posit a, int k, int n) {
            if (a.nar || (a.minus && (k & 1) == 0)) {
                return Rounding.notReal(n);
            }
            if (a.significand == 0) {
                return 0;
            }
            int lift = 30 - Math.floorDiv(a.scale(), Math.max(k, 1));
            seeker.factor.put(1);
            seeker.bound.put(a.significand);
            seeker.bound.shiftUp(a.exponent + k * lift);
            long s = seeker.seek(k);
            return Rounding.ofLong(n, a.minus, s, -lift, seeker.more);
        }

        /** Seeks s for s s m <= 2^(2 lift), with a's value m times 4^half: then s is 2^lift over m's root. */
        long inverseRootOf(Posit a, int n) {
            if (a.nar || a.minus || a.significand == 0) {
                return Rounding.notReal(n);
            }
            int odd = a.exponent & 1;
            long m = a.significand << odd;
            int half = (a.exponent - odd) / 2;
            seeker.factor.put(m);
            int lift = 31 + seeker.factor.bits() / 2;
            seeker.bound.put(1);
            seeker.bound.shiftUp(2 * lift);
            long s = seeker.seek(2);
            return Rounding.ofLong(n, false, s, -lift - half, seeker.more);
        }

        long distanceOf(Posit a, Posit b, int n) {
            pile.empty();
            pile.bring(a, a, false);
            pile.bring(b, b, false);
            if (pile.nar) {
                return Rounding.notReal(n);
            }
            pile.copySize(seeker.bound);
            if (seeker.bound.isNought()) {
                return 0;
            }
            int half = Math.floorDiv(seeker.bound.bits() - 61, 2);
            seeker.factor.put(1);
            seeker.factor.shiftUp(Math.max(0, 2 * half));
            seeker.bound.shiftUp(Math.max(0, -2 * half));
            long s = seeker.seek(2);
            return Rounding.ofLong(n, false, s, half - HALF_UNIT, seeker.more);
        }

        long powerOf(Posit a, int k, int n) {
            if (a.nar || (a.significand == 0 && k < 0)) {
                return Rounding.notReal(n);
            }
            boolean minus = a.minus && (k & 1) == 1;
            lower.put(1);
            lower.growOften(a.significand, Math.abs(k));
            if (k >= 0) {
                return Rounding.ofWide(n, minus, lower, k * a.exponent);
            }
            upper.put(1);
            return divided(k * a.exponent, minus, n);
        }

        /** Tens beyond the clamp lead to the greatest or least pattern of every width, as those at it do. */
        long decimalOf(Wide digits, int tens, boolean minus, int n) {
            int clamped = Math.max(LEAST_TENS, Math.min(MOST_TENS, tens));
            upper.copy(digits);
            upper.growOften(10, Math.max(0, clamped));
            lower.put(1);
            lower.growOften(10, Math.max(0, -clamped));
            return clamped >= 0 ? Rounding.ofWide(n, minus, upper, 0) : divided(0, minus, n);
        }

        /** Of upper / lower times 2^exponent; the quotient is scaled to have 31 or 32 bits. */
        private long divided(int exponent, boolean minus, int n) {
            if (upper.isNought()) {
                return 0;
            }
            int lift = 31 - upper.bits() + lower.bits();
            seeker.factor.copy(lower);
            seeker.factor.shiftUp(Math.max(0, -lift));
            seeker.bound.copy(upper);
            seeker.bound.shiftUp(Math.max(0, lift));
            long s = seeker.seek(1);
            return Rounding.ofLong(n, minus, s, exponent - lift, seeker.more);
        }
    }

    /** Bytes that came, and what they say as a DECIMAL: digits times 10^tens. */
    private static final class Tape {
        static final int ROOM = 80;
        private static final int MOST_DIGITS = 60;
        private static final int MOST_POWER_DIGITS = 3;

        private final int[] bytes;
        private int taken;
        final Wide digits;
        int count;
        int at;
        int tens;
        boolean minus;
        boolean nar;

        Tape() {
            bytes = new int[ROOM];
            digits = new Wide();
        }

        void append(int one) {
            if (count >= 0 && count < ROOM) {
                bytes[count] = one;
                count++;
            }
        }

        /** Whether it is a DECIMAL; if not, at is the place that is WRONG. */
        boolean scan() {
            at = 0;
            taken = 0;
            tens = 0;
            digits.put(0);
            nar = here() == 'N';
            if (nar) {
                return pass('N') && pass('a') && pass('R') && at == count;
            }
            minus = pass('-');
            if (!scanDigits()) {
                return false;
            }
            int ahead = taken;
            if (pass('.') && !scanDigits()) {
                return false;
            }
            if (pass('e') && !scanPower()) {
                return false;
            }
            tens += ahead - taken;
            return at == count;
        }

        private boolean scanDigits() {
            int start = at;
            for (int i = at; i < count && isDigit(); i++) {
                if (taken == MOST_DIGITS) {
                    return false;
                }
                digits.grow(10, here() - '0');
                taken++;
                at++;
            }
            return at > start;
        }

        private boolean scanPower() {
            boolean down = pass('-');
            if (!down) {
                pass('+');
            }
            int start = at;
            for (int i = 0; i < MOST_POWER_DIGITS && isDigit(); i++) {
                tens = 10 * tens + here() - '0';
                at++;
            }
            tens = down ? -tens : tens;
            return at > start;
        }

        private boolean pass(int wanted) {
            boolean met = here() == wanted;
            at += met ? 1 : 0;
            return met;
        }

        private boolean isDigit() {
            return here() >= '0' && here() <= '9';
        }

        private int here() {
            return at >= 0 && at < count && at < ROOM ? bytes[at] : -1;
        }
    }

    /** What was written last. */
    private static final class Page {
        private static final int ROOM = 160;
        private static final int UNIT = 120;
        private static final int MOST_STEPS = 60;

        private final int[] bytes;
        private final Posit edge;
        private final Wide rest;
        private final Wide unit;
        private final Wide below;
        private final Wide above;
        private final Wide gap;
        private boolean openBelow;
        private boolean openAbove;
        private boolean even;
        private int tens;
        int count;

        Page() {
            bytes = new int[ROOM];
            edge = new Posit();
            rest = new Wide();
            unit = new Wide();
            below = new Wide();
            above = new Wide();
            gap = new Wide();
        }

        int byteAt(int i) {
            return i >= 0 && i < ROOM ? bytes[i] : -1;
        }

        void putNaR() {
            count = 0;
            append('N');
            append('a');
            append('R');
        }

        void putNought() {
            count = 0;
            append('0');
        }

        /** With m / 2^f = m 5^f / 10^f the digits are those of a whole number; they come from the last one on. */
        void putFull(Posit value) {
            count = 0;
            int behind = Math.max(0, -value.exponent);
            rest.put(value.significand);
            rest.shiftUp(Math.max(0, value.exponent));
            rest.growOften(5, behind);
            for (int i = 0; i < ROOM && (i <= behind || !rest.isNought()); i++) {
                if (i == behind && behind > 0) {
                    append('.');
                }
                append('0' + rest.cutDigit());
            }
            if (value.minus) {
                append('-');
            }
            reverse();
        }

        /**
         * With c digits, only the greatest decimal not above the value and the one behind it can be nearest, and
         * if neither rounds to the pattern none does; so digits come till one of both does.
         */
        void putShort(Posit value, long pattern, int n) {
            count = 0;
            if (value.minus) {
                append('-');
            }
            loadBounds(value, value.minus ? (1L << n) - pattern : pattern, n);
            scaleToOneDigit();
            int start = count;
            for (int i = 0; i < MOST_STEPS && !putDigit(count == start); i++) {
                if (count == start + 1) {
                    append('.');
                }
                growParts();
            }
            append('e');
            putPower();
        }

        /** In units of 2^-120: rest is the value, below and above say how far off its bounds are. */
        private void loadBounds(Posit value, long u, int n) {
            even = (u & 1) == 0;
            openBelow = u == 1;
            openAbove = u == Rounding.greatest(n - 1);
            loadUnits(rest, value);
            below.put(0);
            above.put(0);
            if (!openBelow) {
                edge.load(2 * u - 1, n + 1);
                loadUnits(gap, edge);
                below.copy(rest);
                below.lower(gap);
            }
            if (!openAbove) {
                edge.load(2 * u + 1, n + 1);
                loadUnits(above, edge);
                above.lower(rest);
            }
            unit.put(1);
            unit.shiftUp(UNIT);
        }

        private static void loadUnits(Wide target, Posit value) {
            target.put(value.significand);
            target.shiftUp(value.exponent + UNIT);
        }

        /** Afterwards the value is rest / unit times 10^tens, and that quotient has one digit ahead of the dot. */
        private void scaleToOneDigit() {
            tens = 0;
            gap.copy(unit);
            gap.grow(10, 0);
            for (int i = 0; i < MOST_STEPS && rest.against(gap) >= 0; i++) {
                unit.copy(gap);
                gap.grow(10, 0);
                tens++;
            }
            for (int i = 0; i < MOST_STEPS && rest.against(unit) < 0; i++) {
                growParts();
                tens--;
            }
        }

        private void growParts() {
            rest.grow(10, 0);
            below.grow(10, 0);
            above.grow(10, 0);
        }

        /** Puts the next digit, or one more where that is due: whether it is the last one. */
        private boolean putDigit(boolean first) {
            int digit = 0;
            for (int i = 0; i < 9 && rest.against(unit) >= 0; i++) {
                rest.lower(unit);
                digit++;
            }
            gap.copy(unit);
            gap.lower(rest);
            boolean downFits = openBelow || fits(rest, below);
            boolean upFits = openAbove || fits(gap, above);
            boolean up = upFits && (!downFits || gap.against(rest) < 0);
            if (up && first && digit == 9) {
                tens++;
                digit = 0;
            }
            append('0' + digit + (up ? 1 : 0));
            return downFits || upFits;
        }

        /** A bound itself rounds to the even one of its two patterns. */
        private boolean fits(Wide distance, Wide room) {
            int how = distance.against(room);
            return how < 0 || (how == 0 && even);
        }

        private void putPower() {
            if (tens < 0) {
                append('-');
            }
            int size = Math.abs(tens);
            if (size >= 10) {
                append('0' + size / 10);
            }
            append('0' + size % 10);
        }

        private void append(int one) {
            if (count >= 0 && count < ROOM) {
                bytes[count] = one;
                count++;
            }
        }

        private void reverse() {
            for (int i = 0; i < count / 2; i++) {
                int kept = bytes[i];
                bytes[i] = bytes[count - 1 - i];
                bytes[count - 1 - i] = kept;
            }
        }
    }
}
