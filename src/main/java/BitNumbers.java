/** The numbers of a machine, as rows of bits, worked on a stack of values with types. */
public final class BitNumbers {
    private static final int LIMIT = 64;
    private static final int NOTHING = -1;

    private static final int WHOLE_32 = 0;
    private static final int WHOLE_64 = 1;
    private static final int FLOATING_32 = 2;
    private static final int FLOATING_64 = 3;

    private static final int NO_TRAP = 0;
    private static final int TRAP_BY_ZERO = 1;
    private static final int TRAP_NOT_THERE = 2;
    private static final int TRAP_NONE = 3;

    private final int[] types;
    private final long[] rows;
    private int count;
    private int latestTrap;

    public BitNumbers() {
        types = new int[LIMIT];
        rows = new long[LIMIT];
        count = 0;
        latestTrap = NO_TRAP;
    }

    public int push(int type, long bits) {
        if (type < WHOLE_32 || type > FLOATING_64) {
            return NOTHING;
        }
        return put(type, bits);
    }

    public long pop() throws IllegalStateException {
        if (!isThere(0)) {
            throw new IllegalStateException("the stack is empty");
        }
        count--;
        return rows[count];
    }

    public int apply(int operator)
            throws IllegalArgumentException, IllegalStateException, UnsupportedOperationException {
        latestTrap = NO_TRAP;
        if (!Operators.exists(operator)) {
            throw new IllegalArgumentException("there is no such operator");
        }
        int operands = Operators.operands(operator);
        if (!areOnTop(operands, Operators.operandType(operator))) {
            throw new IllegalStateException("the operands are not there");
        }
        // An only operand is handed on as x and as y, so that no operator needs a second way in.
        long x = rows[count - operands];
        long y = rows[count - 1];
        latestTrap = Operators.trapOf(operator, x, y);
        if (latestTrap != NO_TRAP) {
            throw new UnsupportedOperationException("a trap");
        }
        count -= operands;
        put(Operators.resultType(operator), Operators.result(operator, x, y));
        return Operators.resultType(operator);
    }

    public int trap() {
        return latestTrap;
    }

    public int operator(int operator, int what) {
        if (!Operators.exists(operator)) {
            return NOTHING;
        }
        switch (what) {
            case 0:
                return Operators.operands(operator);
            case 1:
                return Operators.operandType(operator);
            case 2:
                return Operators.resultType(operator);
            default:
                return NOTHING;
        }
    }

    public int type(int k) {
        return isThere(k) ? types[count - 1 - k] : NOTHING;
    }

    public long bits(int k) {
        return isThere(k) ? rows[count - 1 - k] : 0;
    }

    public int parts(int k, int what) {
        if (!isThere(k) || types[count - 1 - k] < FLOATING_32) {
            return NOTHING;
        }
        Format format = Format.of(types[count - 1 - k]);
        long row = rows[count - 1 - k];
        switch (what) {
            case 0:
                return format.isNegative(row) ? 1 : 0;
            case 1:
                return format.exponent(row);
            case 2:
                return format.kind(row);
            default:
                return NOTHING;
        }
    }

    public int copy(int k) {
        if (!isThere(k)) {
            return NOTHING;
        }
        return put(types[count - 1 - k], rows[count - 1 - k]);
    }

    public int clear() {
        int before = count;
        count = 0;
        return before;
    }

    private boolean isThere(int k) {
        return k >= 0 && k < count;
    }

    private boolean areOnTop(int operands, int type) {
        if (operands < 1 || operands > count) {
            return false;
        }
        for (int i = count - operands; i < count; i++) {
            if (types[i] != type) {
                return false;
            }
        }
        return true;
    }

    /** Cuts the bits to the type here, once, so that operators may leave more of them than a type has. */
    private int put(int type, long row) {
        if (count >= LIMIT) {
            return NOTHING;
        }
        boolean isShort = type == WHOLE_32 || type == FLOATING_32;
        types[count] = type;
        rows[count] = isShort ? Whole.withoutSign(WHOLE_32, row) : row;
        count++;
        return count;
    }

    /** Which operators there are, what they take and give, and who works them. */
    private static final class Operators {
        private static final int LAST = 196;
        private static final int FIRST_BOUNDED = 200;
        private static final int LAST_BOUNDED = 207;

        /** Each family's first operator: tests of the types 0 to 3, arithmetic of the same, conversions. */
        private static final int[] STARTS = {69, 80, 91, 97, 103, 121, 139, 153, 167};
        /** How many of a family's operators, from its first on, have one operand. */
        private static final int[] ONE_OPERAND = {1, 1, 0, 0, 3, 3, 7, 7, 41};
        private static final int ARITHMETIC = 4;
        private static final int CONVERSION = 8;

        /** The types of the conversions from 167 on; 197 to 199 are none. */
        private static final int[] FROM = {
            1, 2, 2, 3, 3, 0, 0, 2, 2, 3, 3, 0, 0, 1, 1, 3, 0, 0, 1, 1, 2,
            2, 3, 0, 1, 0, 0, 1, 1, 1, -1, -1, -1, 2, 2, 3, 3, 2, 2, 3, 3};
        private static final int[] TO = {
            0, 0, 0, 0, 0, 1, 1, 1, 1, 1, 1, 2, 2, 2, 2, 2, 3, 3, 3, 3, 3,
            0, 1, 2, 3, 0, 0, 1, 1, 1, -1, -1, -1, 0, 0, 0, 0, 1, 1, 1, 1};

        static boolean exists(int operator) {
            return operator >= STARTS[0] && operator <= LAST
                || operator >= FIRST_BOUNDED && operator <= LAST_BOUNDED;
        }

        static int operands(int operator) {
            int family = family(operator);
            return operator - STARTS[family] < ONE_OPERAND[family] ? 1 : 2;
        }

        static int operandType(int operator) {
            int family = family(operator);
            return family < CONVERSION ? family % ARITHMETIC : typeIn(FROM, operator);
        }

        static int resultType(int operator) {
            int family = family(operator);
            if (family < ARITHMETIC) {
                return WHOLE_32;
            }
            return family < CONVERSION ? family % ARITHMETIC : typeIn(TO, operator);
        }

        static int trapOf(int operator, long x, long y) {
            int family = family(operator);
            int type = operandType(operator);
            if (family == ARITHMETIC + WHOLE_32 || family == ARITHMETIC + WHOLE_64) {
                return Whole.trapOf(operator - STARTS[family], type, x, y);
            }
            if (family == CONVERSION && operator < FIRST_BOUNDED && Conversions.isTowardsZero(operator)) {
                return Conversions.trapOf(operator, Format.of(type), resultType(operator), x);
            }
            return NO_TRAP;
        }

        static long result(int operator, long x, long y) {
            int family = family(operator);
            int place = operator - STARTS[family];
            int type = operandType(operator);
            switch (family) {
                case WHOLE_32:
                case WHOLE_64:
                    return Whole.test(place, type, x, y) ? 1 : 0;
                case FLOATING_32:
                case FLOATING_64:
                    return Floating.test(place, Format.of(type), x, y) ? 1 : 0;
                case ARITHMETIC + WHOLE_32:
                case ARITHMETIC + WHOLE_64:
                    return Whole.result(place, type, x, y);
                case ARITHMETIC + FLOATING_32:
                case ARITHMETIC + FLOATING_64:
                    return Floating.result(place, Format.of(type), x, y);
                default:
                    return Conversions.result(operator, type, resultType(operator), x);
            }
        }

        private static int family(int operator) {
            int family = 0;
            for (int i = 1; i < STARTS.length; i++) {
                if (operator >= STARTS[i]) {
                    family = i;
                }
            }
            return family;
        }

        private static int typeIn(int[] conversions, int operator) {
            int place = operator - STARTS[CONVERSION];
            return place >= 0 && place < conversions.length ? conversions[place] : NOTHING;
        }
    }

    /** Whole numbers; those of 32 bits come with zeros above, and may go with anything there. */
    private static final class Whole {
        private static final int IS_ZERO = 0;
        private static final int EQUAL = 1;
        private static final int NOT_EQUAL = 2;
        private static final int LESS_WITH_SIGN = 3;
        private static final int LESS = 4;
        private static final int GREATER_WITH_SIGN = 5;
        private static final int GREATER = 6;
        private static final int AT_MOST_WITH_SIGN = 7;
        private static final int AT_MOST = 8;
        private static final int AT_LEAST_WITH_SIGN = 9;
        private static final int AT_LEAST = 10;

        private static final int HIGH_ZEROS = 0;
        private static final int LOW_ZEROS = 1;
        private static final int ONES = 2;
        private static final int ADD = 3;
        private static final int SUBTRACT = 4;
        private static final int MULTIPLY = 5;
        private static final int DIVIDE_WITH_SIGN = 6;
        private static final int DIVIDE = 7;
        private static final int REMAINDER_WITH_SIGN = 8;
        private static final int REMAINDER = 9;
        private static final int AND = 10;
        private static final int OR = 11;
        private static final int EXCLUSIVE_OR = 12;
        private static final int SHIFT_LEFT = 13;
        private static final int SHIFT_RIGHT_WITH_SIGN = 14;
        private static final int SHIFT_RIGHT = 15;
        private static final int TURN_LEFT = 16;
        private static final int TURN_RIGHT = 17;

        private static final long HIGHEST_BIT = 1L << 63;

        static int width(int type) {
            return type == WHOLE_32 ? 32 : 64;
        }

        static long withSign(int type, long row) {
            return type == WHOLE_32 ? (int) row : row;
        }

        static long withoutSign(int type, long row) {
            return type == WHOLE_32 ? row & 0xFFFFFFFFL : row;
        }

        /** The greatest number of a type. */
        static long greatest(int type, boolean signed) {
            return -1L >>> (64 - width(type) + (signed ? 1 : 0));
        }

        /** As Long.compare; with the highest bit turned, numbers without sign lie as those with sign do. */
        static int orderWithoutSign(long x, long y) {
            return Long.compare(x ^ HIGHEST_BIT, y ^ HIGHEST_BIT);
        }

        /** How many bits there are from the highest 1 on. */
        static int length(long row) {
            long filled = row;
            for (int by = 1; by < 64; by *= 2) {
                filled |= filled >>> by;
            }
            return Long.bitCount(filled);
        }

        static boolean test(int place, int type, long x, long y) {
            int order = Long.compare(withSign(type, x), withSign(type, y));
            int orderWithoutSign = orderWithoutSign(x, y);
            switch (place) {
                case IS_ZERO:
                    return x == 0;
                case EQUAL:
                    return x == y;
                case NOT_EQUAL:
                    return x != y;
                case LESS_WITH_SIGN:
                    return order < 0;
                case LESS:
                    return orderWithoutSign < 0;
                case GREATER_WITH_SIGN:
                    return order > 0;
                case GREATER:
                    return orderWithoutSign > 0;
                case AT_MOST_WITH_SIGN:
                    return order <= 0;
                case AT_MOST:
                    return orderWithoutSign <= 0;
                case AT_LEAST_WITH_SIGN:
                    return order >= 0;
                case AT_LEAST:
                    return orderWithoutSign >= 0;
                default:
                    return false;
            }
        }

        static int trapOf(int place, int type, long x, long y) {
            if (place < DIVIDE_WITH_SIGN || place > REMAINDER) {
                return NO_TRAP;
            }
            if (y == 0) {
                return TRAP_BY_ZERO;
            }
            long least = withoutSign(type, greatest(type, true) + 1);
            boolean isTooGreat = place == DIVIDE_WITH_SIGN && x == least && withSign(type, y) == -1;
            return isTooGreat ? TRAP_NOT_THERE : NO_TRAP;
        }

        static long result(int place, int type, long x, long y) {
            switch (place) {
                case HIGH_ZEROS:
                    return width(type) - length(x);
                case LOW_ZEROS:
                    return x == 0 ? width(type) : Long.bitCount((x & -x) - 1);
                case ONES:
                    return Long.bitCount(x);
                case ADD:
                    return x + y;
                case SUBTRACT:
                    return x - y;
                case MULTIPLY:
                    return x * y;
                case DIVIDE_WITH_SIGN:
                case DIVIDE:
                case REMAINDER_WITH_SIGN:
                case REMAINDER:
                    return divided(place, type, x, y);
                case AND:
                    return x & y;
                case OR:
                    return x | y;
                case EXCLUSIVE_OR:
                    return x ^ y;
                default:
                    return shifted(place, type, x, (int) y & (width(type) - 1));
            }
        }

        private static long divided(int place, int type, long x, long y) {
            long divisor = withSign(type, y);
            if (y == 0 || divisor == 0) {
                return 0;
            }
            switch (place) {
                case DIVIDE_WITH_SIGN:
                    return withSign(type, x) / divisor;
                case DIVIDE:
                    return quotientWithoutSign(x, y);
                case REMAINDER_WITH_SIGN:
                    return withSign(type, x) % divisor;
                default:
                    return x - y * quotientWithoutSign(x, y);
            }
        }

        /** For a y that is not 0. */
        private static long quotientWithoutSign(long x, long y) {
            if (y <= 0) {
                // The highest bit is 1, so y goes into x once at most.
                return orderWithoutSign(x, y) < 0 ? 0 : 1;
            }
            // Half of x has no highest bit; what it gives, doubled, is right or too small by 1.
            long quotient = (x >>> 1) / y * 2;
            return orderWithoutSign(x - quotient * y, y) < 0 ? quotient : quotient + 1;
        }

        private static long shifted(int place, int type, long x, int by) {
            switch (place) {
                case SHIFT_LEFT:
                    return x << by;
                case SHIFT_RIGHT_WITH_SIGN:
                    return withSign(type, x) >> by;
                case SHIFT_RIGHT:
                    return x >>> by;
                case TURN_LEFT:
                    return x << by | x >>> (width(type) - by);
                case TURN_RIGHT:
                    return x >>> by | x << (width(type) - by);
                default:
                    return x;
            }
        }
    }

    /** How a floating number lies in its bits; a number is its significand * 2 ^ its scale, with its sign. */
    private enum Format {
        SINGLE(24, 127, 1L << 31),
        DOUBLE(53, 1023, 1L << 63);

        private static final int ZERO = 0;
        private static final int WITHOUT_EXPONENT = 1;
        private static final int OTHER = 2;
        private static final int INFINITE = 3;
        private static final int NONE = 4;

        final int places;
        final int greatestExponent;
        final int leastScale;
        final long signBit;
        final long leadingBit;
        final long infinite;
        final long none;

        Format(int places, int middle, long signBit) {
            this.places = places;
            this.greatestExponent = 2 * middle + 1;
            this.leastScale = 2 - middle - places;
            this.signBit = signBit;
            this.leadingBit = 1L << (places - 1);
            this.infinite = (2L * middle + 1) << (places - 1);
            this.none = this.infinite | 1L << (places - 2);
        }

        static Format of(int type) {
            return type == FLOATING_32 ? SINGLE : DOUBLE;
        }

        boolean isNegative(long row) {
            return (row & signBit) != 0;
        }

        long magnitude(long row) {
            return row & ~signBit;
        }

        boolean isZero(long row) {
            return (row & ~signBit) == 0;
        }

        boolean isInfinite(long row) {
            return (row & ~signBit) == infinite;
        }

        boolean isNone(long row) {
            return (row & ~signBit) > infinite;
        }

        int exponent(long row) {
            return (int) (row >>> (places - 1)) & greatestExponent;
        }

        int kind(long row) {
            if (isNone(row)) {
                return NONE;
            }
            if (isInfinite(row)) {
                return INFINITE;
            }
            if (isZero(row)) {
                return ZERO;
            }
            return exponent(row) == 0 ? WITHOUT_EXPONENT : OTHER;
        }

        long significand(long row) {
            long fraction = row & (leadingBit - 1);
            return exponent(row) == 0 ? fraction : leadingBit | fraction;
        }

        int scale(long row) {
            return leastScale + Math.max(exponent(row), 1) - 1;
        }

        long signed(boolean negative, long magnitude) {
            return negative ? magnitude | signBit : magnitude;
        }

        /** Rounds; a significand that is cut short must be longer than places by two and end in a 1. */
        long rounded(boolean negative, long significand, int scale) {
            if (significand == 0) {
                return signed(negative, 0);
            }
            int length = Whole.length(significand);
            int newScale = Math.max(scale + length - places, leastScale);
            int steps = newScale - leastScale;
            if (steps >= greatestExponent - 1) {
                return signed(negative, infinite);
            }
            int drop = newScale - scale;
            long kept = drop < 0 ? significand << -drop : nearest(significand, drop);
            // The leading bit adds 1 to the exponent, and so does a carry, even the one to INFINITE.
            return signed(negative, ((long) steps << (places - 1)) + kept);
        }

        /** Without the lowest bits, to the even one of two; to drop 64 or more, the highest bit must be 0. */
        static long nearest(long significand, int drop) {
            if (drop <= 0 || drop > 63) {
                return drop <= 0 ? significand : 0;
            }
            long kept = significand >>> drop;
            long rest = significand - (kept << drop);
            long half = 1L << (drop - 1);
            boolean goesUp = rest > half || rest == half && (kept & 1) != 0;
            return goesUp ? kept + 1 : kept;
        }
    }

    /** Floating numbers, worked with whole numbers alone. */
    private static final class Floating {
        private static final int EQUAL = 0;
        private static final int NOT_EQUAL = 1;
        private static final int LESS = 2;
        private static final int GREATER = 3;
        private static final int AT_MOST = 4;
        private static final int AT_LEAST = 5;

        private static final int WITHOUT_SIGN = 0;
        private static final int OTHER_SIGN = 1;
        private static final int CEILING = 2;
        private static final int FLOOR = 3;
        private static final int TOWARDS_ZERO = 4;
        private static final int NEAREST = 5;
        private static final int ROOT = 6;
        private static final int ADD = 7;
        private static final int SUBTRACT = 8;
        private static final int MULTIPLY = 9;
        private static final int DIVIDE = 10;
        private static final int LESSER = 11;
        private static final int GREATER_ONE = 12;
        private static final int SIGN_OF_SECOND = 13;

        /** Significands are lifted to this length: two of them, added or doubled, still fit in a long. */
        private static final int LIFTED = 62;
        /** Enough for 53 places and the two bits more by which rounding decides. */
        private static final int STEPS = 57;

        static boolean test(int place, Format format, long x, long y) {
            if (format.isNone(x) || format.isNone(y)) {
                return place == NOT_EQUAL;
            }
            int order = Long.compare(number(format, x), number(format, y));
            switch (place) {
                case EQUAL:
                    return order == 0;
                case NOT_EQUAL:
                    return order != 0;
                case LESS:
                    return order < 0;
                case GREATER:
                    return order > 0;
                case AT_MOST:
                    return order <= 0;
                case AT_LEAST:
                    return order >= 0;
                default:
                    return false;
            }
        }

        static long result(int place, Format format, long x, long y) {
            switch (place) {
                case WITHOUT_SIGN:
                    return format.magnitude(x);
                case OTHER_SIGN:
                    return x ^ format.signBit;
                case SIGN_OF_SECOND:
                    return format.signed(format.isNegative(y), format.magnitude(x));
                default:
                    return format.isNone(x) || format.isNone(y) ? format.none : calculated(place, format, x, y);
            }
        }

        private static long calculated(int place, Format format, long x, long y) {
            switch (place) {
                case CEILING:
                case FLOOR:
                case TOWARDS_ZERO:
                case NEAREST:
                    return wholeNumber(place, format, x);
                case ROOT:
                    return root(format, x);
                case ADD:
                    return sum(format, x, y);
                case SUBTRACT:
                    return sum(format, x, y ^ format.signBit);
                case MULTIPLY:
                    return product(format, x, y);
                case DIVIDE:
                    return quotient(format, x, y);
                case LESSER:
                    return orderWithZeros(format, x) <= orderWithZeros(format, y) ? x : y;
                case GREATER_ONE:
                    return orderWithZeros(format, x) >= orderWithZeros(format, y) ? x : y;
                default:
                    return x;
            }
        }

        /** In the order of the numbers, both ZEROS being the same. */
        private static long number(Format format, long row) {
            long magnitude = format.magnitude(row);
            return format.isNegative(row) ? -magnitude : magnitude;
        }

        /** In the order of the numbers, ZERO with sign coming before ZERO without. */
        private static long orderWithZeros(Format format, long row) {
            long magnitude = format.magnitude(row);
            return format.isNegative(row) ? ~magnitude : magnitude;
        }

        private static long wholeNumber(int place, Format format, long x) {
            int drop = -format.scale(x);
            if (drop <= 0) {
                return x;
            }
            boolean negative = format.isNegative(x);
            long significand = format.significand(x);
            if (place == NEAREST) {
                return format.rounded(negative, Format.nearest(significand, drop), 0);
            }
            // A significand has less than 63 bits, so to drop more of them makes no difference.
            int dropped = Math.min(drop, 63);
            long kept = significand >>> dropped;
            boolean isCut = kept << dropped != significand;
            boolean goesAway = place == CEILING && !negative || place == FLOOR && negative;
            return format.rounded(negative, isCut && goesAway ? kept + 1 : kept, 0);
        }

        private static long root(Format format, long x) {
            if (format.isZero(x)) {
                return x;
            }
            if (format.isNegative(x)) {
                return format.none;
            }
            if (format.isInfinite(x)) {
                return x;
            }
            int lift = lift(format.significand(x));
            // Only an even scale can be halved.
            lift -= (format.scale(x) - lift) & 1;
            long pairs = format.significand(x) << lift;
            long root = 0;
            long rest = 0;
            for (int i = 0; i < STEPS; i++) {
                rest = rest << 2 | pairs >>> (LIFTED - 2) & 3;
                pairs <<= 2;
                long trial = root << 2 | 1;
                root <<= 1;
                if (rest >= trial) {
                    rest -= trial;
                    root |= 1;
                }
            }
            int scale = (format.scale(x) - lift) / 2 + LIFTED / 2 - STEPS;
            return format.rounded(false, rest == 0 ? root : root | 1, scale);
        }

        private static long sum(Format format, long x, long y) {
            if (format.isInfinite(x) || format.isInfinite(y)) {
                return sumWithInfinite(format, x, y);
            }
            boolean isFirstGreater = format.magnitude(x) >= format.magnitude(y);
            long great = isFirstGreater ? x : y;
            long small = isFirstGreater ? y : x;
            int lift = LIFTED - format.places;
            long greatRow = format.significand(great) << lift;
            long smallRow = shiftedWithTrace(format.significand(small) << lift,
                format.scale(great) - format.scale(small));
            boolean sameSign = format.isNegative(x) == format.isNegative(y);
            long total = sameSign ? greatRow + smallRow : greatRow - smallRow;
            boolean negative = total == 0 ? sameSign && format.isNegative(x) : format.isNegative(great);
            return format.rounded(negative, total, format.scale(great) - lift);
        }

        private static long sumWithInfinite(Format format, long x, long y) {
            boolean areBoth = format.isInfinite(x) && format.isInfinite(y);
            if (areBoth && format.isNegative(x) != format.isNegative(y)) {
                return format.none;
            }
            return format.isInfinite(x) ? x : y;
        }

        private static long product(Format format, long x, long y) {
            boolean negative = format.isNegative(x) != format.isNegative(y);
            boolean hasZero = format.isZero(x) || format.isZero(y);
            if (format.isInfinite(x) || format.isInfinite(y)) {
                return hasZero ? format.none : format.signed(negative, format.infinite);
            }
            if (hasZero) {
                return format.signed(negative, 0);
            }
            int liftX = lift(format.significand(x));
            int liftY = lift(format.significand(y));
            long rowX = format.significand(x) << liftX;
            long rowY = format.significand(y) << liftY;
            long high = highProduct(rowX, rowY);
            int scale = format.scale(x) - liftX + format.scale(y) - liftY + 64;
            return format.rounded(negative, rowX * rowY == 0 ? high : high | 1, scale);
        }

        private static long quotient(Format format, long x, long y) {
            boolean negative = format.isNegative(x) != format.isNegative(y);
            boolean areLike = format.isZero(x) && format.isZero(y) || format.isInfinite(x) && format.isInfinite(y);
            if (areLike) {
                return format.none;
            }
            if (format.isInfinite(x) || format.isZero(y)) {
                return format.signed(negative, format.infinite);
            }
            if (format.isZero(x) || format.isInfinite(y)) {
                return format.signed(negative, 0);
            }
            int liftX = lift(format.significand(x));
            int liftY = lift(format.significand(y));
            long rest = format.significand(x) << liftX;
            long divisor = format.significand(y) << liftY;
            long quotient = 0;
            for (int i = 0; i < STEPS; i++) {
                quotient <<= 1;
                if (rest >= divisor) {
                    rest -= divisor;
                    quotient |= 1;
                }
                rest <<= 1;
            }
            int scale = format.scale(x) - liftX - (format.scale(y) - liftY) - (STEPS - 1);
            return format.rounded(negative, rest == 0 ? quotient : quotient | 1, scale);
        }

        /** The bits of x * y above the lowest 64; worked by halves, and no sum here is longer than 63 bits. */
        private static long highProduct(long x, long y) {
            long lowX = x & 0xFFFFFFFFL;
            long lowY = y & 0xFFFFFFFFL;
            long highX = x >>> 32;
            long highY = y >>> 32;
            long middle = highX * lowY + (lowX * lowY >>> 32);
            long otherMiddle = lowX * highY + (middle & 0xFFFFFFFFL);
            return highX * highY + (middle >>> 32) + (otherMiddle >>> 32);
        }

        private static int lift(long significand) {
            return LIFTED - Whole.length(significand);
        }

        /** Shifted to the right; a 1 that is lost leaves a 1 as the lowest bit, so that rounding sees it. */
        private static long shiftedWithTrace(long row, int by) {
            if (by > 63) {
                return row == 0 ? 0 : 1;
            }
            long shifted = row >>> by;
            return shifted << by == row ? shifted : shifted | 1;
        }
    }

    /** Operators with one operand that give another type, or widen a number's lowest bits. */
    private static final class Conversions {
        private static final int LOWEST_32 = 167;
        private static final int WIDEN_WITH_SIGN = 172;
        private static final int WIDEN = 173;
        private static final int FIRST_FROM_WHOLE = 178;
        private static final int TO_SINGLE = 182;
        private static final int TO_DOUBLE = 187;
        private static final int FIRST_SAME_BITS = 188;
        private static final int LAST_SAME_BITS = 191;
        private static final int LOWEST_8_OF_32 = 192;
        private static final int LOWEST_16_OF_32 = 193;
        private static final int LOWEST_8_OF_64 = 194;
        private static final int LOWEST_16_OF_64 = 195;

        static boolean isTowardsZero(int operator) {
            return operator > LOWEST_32 && operator < WIDEN_WITH_SIGN
                || operator > WIDEN && operator < FIRST_FROM_WHOLE
                || operator >= Operators.FIRST_BOUNDED;
        }

        static int trapOf(int operator, Format format, int to, long x) {
            if (format.isNone(x)) {
                return TRAP_NONE;
            }
            return fits(format, x, limit(format, x, to, isSigned(operator))) ? NO_TRAP : TRAP_NOT_THERE;
        }

        static long result(int operator, int from, int to, long x) {
            if (isTowardsZero(operator)) {
                return towardsZero(operator, Format.of(from), to, x);
            }
            if (operator == LOWEST_32 || operator == WIDEN
                    || operator >= FIRST_SAME_BITS && operator <= LAST_SAME_BITS) {
                return x;
            }
            if (operator == WIDEN_WITH_SIGN) {
                return Whole.withSign(from, x);
            }
            if (operator == TO_SINGLE || operator == TO_DOUBLE) {
                return otherFormat(Format.of(from), Format.of(to), x);
            }
            if (operator < FIRST_SAME_BITS) {
                return fromWhole(isSigned(operator), from, Format.of(to), x);
            }
            return lowestWithSign(operator, x);
        }

        /** With and without sign take turns: 183 .. 186 begin at an odd number, the others at an even one. */
        private static boolean isSigned(int operator) {
            boolean isEven = operator % 2 == 0;
            return operator > TO_SINGLE && operator < TO_DOUBLE ? !isEven : isEven;
        }

        private static long lowestWithSign(int operator, long x) {
            switch (operator) {
                case LOWEST_8_OF_32:
                case LOWEST_8_OF_64:
                    return (byte) x;
                case LOWEST_16_OF_32:
                case LOWEST_16_OF_64:
                    return (short) x;
                default:
                    return (int) x;
            }
        }

        private static long fromWhole(boolean signed, int from, Format format, long x) {
            long number = signed ? Whole.withSign(from, x) : x;
            boolean negative = signed && number < 0;
            return format.rounded(negative, negative ? -number : number, 0);
        }

        private static long otherFormat(Format from, Format to, long x) {
            if (from.isNone(x)) {
                return to.none;
            }
            if (from.isInfinite(x)) {
                return to.signed(from.isNegative(x), to.infinite);
            }
            return to.rounded(from.isNegative(x), from.significand(x), from.scale(x));
        }

        private static long towardsZero(int operator, Format format, int to, long x) {
            if (format.isNone(x)) {
                return 0;
            }
            long limit = limit(format, x, to, isSigned(operator));
            long whole = fits(format, x, limit) ? wholePart(format.significand(x), format.scale(x)) : limit;
            return format.isNegative(x) ? -whole : whole;
        }

        /** How far from 0 the whole numbers go on x's side of it, without sign. */
        private static long limit(Format format, long x, int to, boolean signed) {
            if (!format.isNegative(x)) {
                return Whole.greatest(to, signed);
            }
            return signed ? Whole.greatest(to, true) + 1 : 0;
        }

        private static boolean fits(Format format, long x, long limit) {
            long significand = format.significand(x);
            int scale = format.scale(x);
            // INFINITE, too, has a scale that leads far above 64 bits.
            if (scale > 64 - Whole.length(significand)) {
                return false;
            }
            return Whole.orderWithoutSign(wholePart(significand, scale), limit) <= 0;
        }

        private static long wholePart(long significand, int scale) {
            if (scale >= 0) {
                return significand << scale;
            }
            return scale < -63 ? 0 : significand >>> -scale;
        }
    }
}
