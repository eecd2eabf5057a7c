import java.math.BigDecimal;
import java.math.BigInteger;

/** What is due of each operator, worked with Java's own numbers and with exact whole ones. */
final class Machine {
    private static final BigInteger TWO_64 = BigInteger.ONE.shiftLeft(64);

    /** The type and bits of the result, or the trap. */
    static Outcome due(int operator, int from, int to, long x, long y) {
        if (operator >= 109 && operator <= 112 || operator >= 127 && operator <= 130) {
            Outcome trap = divisionTrap(operator, from, x, y);
            if (trap != null) {
                return trap;
            }
        }
        if (isTowardsZero(operator)) {
            return towardsZero(operator, from, to, x);
        }
        return Outcome.result(to, Outcome.cut(to, bits(operator, x, y)));
    }

    private static long bits(int operator, long x, long y) {
        if (operator <= 90) {
            return wholeTest(operator, x, y) ? 1 : 0;
        }
        if (operator <= 96) {
            return floatTest(operator - 91, single(x), single(y)) ? 1 : 0;
        }
        if (operator <= 102) {
            return floatTest(operator - 97, wide(x), wide(y)) ? 1 : 0;
        }
        if (operator <= 120) {
            return whole32(operator, (int) x, (int) y);
        }
        if (operator <= 138) {
            return whole64(operator, x, y);
        }
        if (operator <= 152) {
            return floating32(operator, x, y);
        }
        if (operator <= 166) {
            return floating64(operator, x, y);
        }
        return conversion(operator, x);
    }

    private static boolean wholeTest(int operator, long x, long y) {
        boolean isShort = operator < 80;
        int order = isShort ? Integer.compare((int) x, (int) y) : Long.compare(x, y);
        int plain = isShort ? Integer.compareUnsigned((int) x, (int) y) : Long.compareUnsigned(x, y);
        switch (operator - (isShort ? 69 : 80)) {
            case 0: return isShort ? (int) x == 0 : x == 0;
            case 1: return order == 0;
            case 2: return order != 0;
            case 3: return order < 0;
            case 4: return plain < 0;
            case 5: return order > 0;
            case 6: return plain > 0;
            case 7: return order <= 0;
            case 8: return plain <= 0;
            case 9: return order >= 0;
            default: return plain >= 0;
        }
    }

    private static boolean floatTest(int place, double x, double y) {
        switch (place) {
            case 0: return x == y;
            case 1: return x != y;
            case 2: return x < y;
            case 3: return x > y;
            case 4: return x <= y;
            default: return x >= y;
        }
    }

    private static Outcome divisionTrap(int operator, int type, long x, long y) {
        boolean isShort = type == 0;
        long least = isShort ? Integer.MIN_VALUE : Long.MIN_VALUE;
        long first = isShort ? (int) x : x;
        long second = isShort ? (int) y : y;
        if (second == 0) {
            return Outcome.trapped(1, type, Outcome.cut(type, y));
        }
        boolean withSign = operator == 109 || operator == 127;
        return withSign && first == least && second == -1 ? Outcome.trapped(2, type, Outcome.cut(type, y)) : null;
    }

    private static long whole32(int operator, int x, int y) {
        switch (operator) {
            case 103: return Integer.numberOfLeadingZeros(x);
            case 104: return Integer.numberOfTrailingZeros(x);
            case 105: return Integer.bitCount(x);
            case 106: return x + y;
            case 107: return x - y;
            case 108: return x * y;
            case 109: return x / y;
            case 110: return Integer.divideUnsigned(x, y);
            case 111: return x % y;
            case 112: return Integer.remainderUnsigned(x, y);
            case 113: return x & y;
            case 114: return x | y;
            case 115: return x ^ y;
            case 116: return x << y;
            case 117: return x >> y;
            case 118: return x >>> y;
            case 119: return Integer.rotateLeft(x, y);
            default: return Integer.rotateRight(x, y);
        }
    }

    private static long whole64(int operator, long x, long y) {
        switch (operator) {
            case 121: return Long.numberOfLeadingZeros(x);
            case 122: return Long.numberOfTrailingZeros(x);
            case 123: return Long.bitCount(x);
            case 124: return x + y;
            case 125: return x - y;
            case 126: return x * y;
            case 127: return x / y;
            case 128: return plain(x).divide(plain(y)).longValue();
            case 129: return x % y;
            case 130: return plain(x).mod(plain(y)).longValue();
            case 131: return x & y;
            case 132: return x | y;
            case 133: return x ^ y;
            case 134: return x << y;
            case 135: return x >> y;
            case 136: return x >>> y;
            case 137: return Long.rotateLeft(x, (int) (y & 63));
            default: return Long.rotateRight(x, (int) (y & 63));
        }
    }

    private static long floating32(int operator, long x, long y) {
        float a = single(x);
        float b = single(y);
        switch (operator) {
            case 139: return x & 0x7FFFFFFFL;
            case 140: return x ^ 0x80000000L;
            case 141: return row((float) Math.ceil(a));
            case 142: return row((float) Math.floor(a));
            case 143: return row((float) (a < 0 ? Math.ceil(a) : Math.floor(a)));
            case 144: return row((float) Math.rint(a));
            case 145: return row((float) Math.sqrt(a));
            case 146: return row(a + b);
            case 147: return row(a - b);
            case 148: return row(a * b);
            case 149: return row(a / b);
            case 150: return row(Math.min(a, b));
            case 151: return row(Math.max(a, b));
            default: return x & 0x7FFFFFFFL | y & 0x80000000L;
        }
    }

    private static long floating64(int operator, long x, long y) {
        double a = wide(x);
        double b = wide(y);
        switch (operator) {
            case 153: return x & Long.MAX_VALUE;
            case 154: return x ^ Long.MIN_VALUE;
            case 155: return row(Math.ceil(a));
            case 156: return row(Math.floor(a));
            case 157: return row(a < 0 ? Math.ceil(a) : Math.floor(a));
            case 158: return row(Math.rint(a));
            case 159: return row(Math.sqrt(a));
            case 160: return row(a + b);
            case 161: return row(a - b);
            case 162: return row(a * b);
            case 163: return row(a / b);
            case 164: return row(Math.min(a, b));
            case 165: return row(Math.max(a, b));
            default: return x & Long.MAX_VALUE | y & Long.MIN_VALUE;
        }
    }

    private static long conversion(int operator, long x) {
        long plain32 = x & 0xFFFFFFFFL;
        switch (operator) {
            case 167: return (int) x;
            case 172: return (int) x;
            case 173: return plain32;
            case 178: return row((float) (int) x);
            case 179: return row((float) plain32);
            case 180: return row((float) x);
            case 181: return row(plain(x).floatValue());
            case 182: return row((float) wide(x));
            case 183: return row((double) (int) x);
            case 184: return row((double) plain32);
            case 185: return row((double) x);
            case 186: return row(plain(x).doubleValue());
            case 187: return row((double) single(x));
            case 192: return (byte) x;
            case 193: return (short) x;
            case 194: return (byte) x;
            case 195: return (short) x;
            case 196: return (int) x;
            default: return x;
        }
    }

    private static boolean isTowardsZero(int operator) {
        return operator >= 168 && operator <= 171 || operator >= 174 && operator <= 177 || operator >= 200;
    }

    private static Outcome towardsZero(int operator, int from, int to, long x) {
        boolean traps = operator < 200;
        double number = from == 2 ? single(x) : wide(x);
        if (number != number) {
            return traps ? Outcome.trapped(3, from, Outcome.cut(from, x)) : Outcome.result(to, 0);
        }
        boolean signed = operator % 2 == 0;
        int width = to == 0 ? 32 : 64;
        BigInteger least = signed ? BigInteger.ONE.shiftLeft(width - 1).negate() : BigInteger.ZERO;
        BigInteger greatest = BigInteger.ONE.shiftLeft(signed ? width - 1 : width).subtract(BigInteger.ONE);
        boolean isInfinite = Double.isInfinite(number);
        BigInteger whole = isInfinite
            ? TWO_64.shiftLeft(1).multiply(BigInteger.valueOf(number < 0 ? -1 : 1))
            : new BigDecimal(number).toBigInteger();
        boolean isThere = whole.compareTo(least) >= 0 && whole.compareTo(greatest) <= 0;
        if (traps && !isThere) {
            return Outcome.trapped(2, from, Outcome.cut(from, x));
        }
        return Outcome.result(to, Outcome.cut(to, whole.max(least).min(greatest).longValue()));
    }

    private static BigInteger plain(long row) {
        BigInteger number = BigInteger.valueOf(row);
        return row < 0 ? number.add(TWO_64) : number;
    }

    private static float single(long row) {
        return Float.intBitsToFloat((int) row);
    }

    private static double wide(long row) {
        return Double.longBitsToDouble(row);
    }

    /** Any NONE of Java's becomes THE NONE here. */
    private static long row(float number) {
        return Float.floatToIntBits(number) & 0xFFFFFFFFL;
    }

    private static long row(double number) {
        return Double.doubleToLongBits(number);
    }

    private Machine() {
    }
}
