import java.math.BigInteger;

/** Promise 4, with the 'Terms' on operators of whole numbers: the edges of each. */
final class Promise04WholeTest {
    private static final Check CHECK = new Check("Promise04WholeTest");
    private static final Applied APPLIED = new Applied(CHECK);

    private final int type;
    private final int width;
    private final long least;
    private final long greatest;
    private final long[] withSign;
    private final long[] withoutSign;

    private Promise04WholeTest(int type) {
        this.type = type;
        width = type == 0 ? 32 : 64;
        least = 1L << (width - 1);
        greatest = least - 1;
        withSign = rising(least, least + 1, -2, -1, 0, 1, 2, greatest - 1, greatest);
        withoutSign = rising(0, 1, 2, greatest - 1, greatest, least, least + 1, -2, -1);
    }

    public static void main(String[] args) {
        for (int type = 0; type < 2; type++) {
            Promise04WholeTest test = new Promise04WholeTest(type);
            test.isZero();
            test.sameAndNotSame();
            test.inOrder();
            test.countsOfBits();
            test.lowestBitsOfSums();
            test.quotientsTowardsZero();
            test.quotientsWithoutSign();
            test.signOfTheRemainder();
            test.rowsOfBits();
            test.shiftedByYModulo();
        }
        resultsOfTests();
        lowestBits();
        CHECK.end();
    }

    private long[] rising(long... rows) {
        for (int i = 0; i < rows.length; i++) {
            rows[i] = Outcome.cut(type, rows[i]);
        }
        return rows;
    }

    /** The operator of type 1 that stands where this one of type 0 does. */
    private int at(int operator) {
        return type == 0 ? operator : operator < 103 ? operator + 11 : operator + 18;
    }

    private String ofType() {
        return " (type " + type + ")";
    }

    private void isZero() {
        CHECK.sentence(4, "69 (type 0) and 80 (type 1): 1 if x is 0, else 0." + ofType());
        APPLIED.gives(at(69), 1, 0);
        for (int bit = 0; bit < width; bit++) {
            APPLIED.gives(at(69), 0, 1L << bit);
        }
        APPLIED.gives(at(69), 0, Outcome.cut(type, -1));
    }

    private void sameAndNotSame() {
        CHECK.sentence(4, "x = y, not =" + ofType());
        for (long x : withSign) {
            for (long y : withSign) {
                APPLIED.gives(at(70), x == y ? 1 : 0, x, y);
                APPLIED.gives(at(71), x == y ? 0 : 1, x, y);
            }
        }
        for (int bit = 0; bit < width; bit++) {
            APPLIED.gives(at(70), 0, 0, 1L << bit);
            APPLIED.gives(at(71), 1, 1L << bit, 0);
        }
    }

    private void inOrder() {
        CHECK.sentence(4,
            "x < y with and without sign, x > y likewise, x <= y likewise, x >= y likewise: 1 or 0." + ofType());
        for (int i = 0; i < withSign.length; i++) {
            for (int k = 0; k < withSign.length; k++) {
                ordered(72, i, k, withSign[i], withSign[k]);
                ordered(73, i, k, withoutSign[i], withoutSign[k]);
            }
        }
    }

    private void ordered(int less, int i, int k, long x, long y) {
        APPLIED.gives(at(less), i < k ? 1 : 0, x, y);
        APPLIED.gives(at(less + 2), i > k ? 1 : 0, x, y);
        APPLIED.gives(at(less + 4), i <= k ? 1 : 0, x, y);
        APPLIED.gives(at(less + 6), i >= k ? 1 : 0, x, y);
    }

    private void countsOfBits() {
        CHECK.sentence(4, "how many bits from the highest on are 0; from the lowest on; how many are 1" + ofType());
        counts(width, width, 0, 0);
        counts(0, 0, width, Outcome.cut(type, -1));
        for (int bit = 0; bit < width; bit++) {
            counts(width - 1 - bit, bit, 1, 1L << bit);
            long upTo = -1L >>> (63 - bit);
            counts(width - 1 - bit, 0, bit + 1, upTo);
            counts(0, bit, width - bit, Outcome.cut(type, -1L << bit));
        }
    }

    private void counts(int highZeros, int lowZeros, int ones, long x) {
        APPLIED.gives(at(103), highZeros, x);
        APPLIED.gives(at(104), lowZeros, x);
        APPLIED.gives(at(105), ones, x);
    }

    private void lowestBitsOfSums() {
        CHECK.sentence(4, "x + y, x - y, x * y (the lowest bits)" + ofType());
        APPLIED.gives(at(106), 0, Outcome.cut(type, -1), 1);
        APPLIED.gives(at(106), least, greatest, 1);
        APPLIED.gives(at(106), 0, least, least);
        APPLIED.gives(at(106), greatest, least, Outcome.cut(type, -1));
        APPLIED.gives(at(106), -1, greatest, least);
        APPLIED.gives(at(107), -1, 0, 1);
        APPLIED.gives(at(107), greatest, least, 1);
        APPLIED.gives(at(107), least, 0, least);
        APPLIED.gives(at(107), least, greatest, Outcome.cut(type, -1));
        APPLIED.gives(at(108), 1, Outcome.cut(type, -1), Outcome.cut(type, -1));
        APPLIED.gives(at(108), least, least, Outcome.cut(type, -1));
        APPLIED.gives(at(108), 0, least, 2);
        APPLIED.gives(at(108), 0, 1L << (width / 2), 1L << (width / 2));
        APPLIED.gives(at(108), least, 1L << (width / 2), 1L << (width / 2 - 1));
        APPLIED.gives(at(108), 1, greatest, greatest);
        for (long x : withSign) {
            for (long y : withSign) {
                BigInteger a = plain(x);
                BigInteger b = plain(y);
                APPLIED.gives(at(106), a.add(b).longValue(), x, y);
                APPLIED.gives(at(107), a.subtract(b).longValue(), x, y);
                APPLIED.gives(at(108), a.multiply(b).longValue(), x, y);
            }
        }
    }

    private void quotientsTowardsZero() {
        CHECK.sentence(4, "x / y with sign (rounded towards 0)" + ofType());
        for (int x = -9; x <= 9; x++) {
            for (int y = -4; y <= 4; y++) {
                if (y != 0) {
                    int size = Math.abs(x) / Math.abs(y);
                    APPLIED.gives(at(109), x < 0 == y < 0 ? size : -size, Outcome.cut(type, x), Outcome.cut(type, y));
                }
            }
        }
        APPLIED.gives(at(109), least, least, 1);
        APPLIED.gives(at(109), 1, least, least);
        APPLIED.gives(at(109), greatest, least + 1, Outcome.cut(type, -1));
        APPLIED.gives(at(109), least + 1, greatest, Outcome.cut(type, -1));
        APPLIED.gives(at(109), -1, least, greatest);
        APPLIED.gives(at(109), 0, greatest, least);
        APPLIED.gives(at(109), least / 2 & greatest, least, Outcome.cut(type, -2));
        APPLIED.gives(at(109), 0, Outcome.cut(type, -1), least);
    }

    private void quotientsWithoutSign() {
        CHECK.sentence(4, "x / y .. without sign" + ofType());
        for (long x : withoutSign) {
            for (long y : withoutSign) {
                if (y != 0) {
                    APPLIED.gives(at(110), plain(x).divide(plain(y)).longValue(), x, y);
                    APPLIED.gives(at(112), plain(x).mod(plain(y)).longValue(), x, y);
                }
            }
        }
        APPLIED.gives(at(110), 0, least, Outcome.cut(type, -1));
        APPLIED.gives(at(110), 1, Outcome.cut(type, -1), Outcome.cut(type, -1));
        APPLIED.gives(at(110), 1, Outcome.cut(type, -1), least);
        APPLIED.gives(at(110), greatest, Outcome.cut(type, -1), 2);
    }

    private void signOfTheRemainder() {
        CHECK.sentence(4, "x modulo y with sign (that of x; x - y * the quotient), without" + ofType());
        for (int x = -9; x <= 9; x++) {
            for (int y = -4; y <= 4; y++) {
                if (y != 0) {
                    int size = Math.abs(x) % Math.abs(y);
                    APPLIED.gives(at(111), x < 0 ? -size : size, Outcome.cut(type, x), Outcome.cut(type, y));
                }
            }
        }
        APPLIED.gives(at(111), 0, least, 1);
        APPLIED.gives(at(111), -1, least, greatest);
        APPLIED.gives(at(111), greatest, greatest, least);
        APPLIED.gives(at(111), 0, least, least);
        APPLIED.gives(at(112), 1, least, greatest);
        APPLIED.gives(at(112), least, least, Outcome.cut(type, -1));
        APPLIED.gives(at(112), 1, Outcome.cut(type, -1), 2);
    }

    private void rowsOfBits() {
        CHECK.sentence(4, "and, or, exclusive or" + ofType());
        for (int bit = 0; bit < width; bit++) {
            long one = 1L << bit;
            long all = Outcome.cut(type, -1);
            APPLIED.gives(at(113), one, one, all);
            APPLIED.gives(at(113), 0, one, all - one);
            APPLIED.gives(at(114), all, one, all - one);
            APPLIED.gives(at(114), one, one, 0);
            APPLIED.gives(at(115), all - one, one, all);
            APPLIED.gives(at(115), 0, one, one);
        }
    }

    private void shiftedByYModulo() {
        CHECK.sentence(4, "x shifted .. turned to the left, to the right, each by y modulo 32 (64)." + ofType());
        long[] rows = {1, least, least + 1, greatest, Outcome.cut(type, -1), Outcome.cut(type, 0x8123456789ABCDE7L)};
        int[] steps = {0, 1, 2, width / 2 - 1, width / 2, width / 2 + 1, width - 2, width - 1};
        long[] rounds = {0, width, 2L * width, -width, least, 1L << (width - 2), 1L << (type == 0 ? 16 : 32)};
        for (long x : rows) {
            for (int by : steps) {
                BigInteger a = plain(x);
                BigInteger signed = x >= 0 && x <= greatest ? a : a.subtract(BigInteger.ONE.shiftLeft(width));
                BigInteger twice = a.shiftLeft(width).or(a);
                for (long round : rounds) {
                    long y = Outcome.cut(type, round + by);
                    APPLIED.gives(at(116), a.shiftLeft(by).longValue(), x, y);
                    APPLIED.gives(at(117), signed.shiftRight(by).longValue(), x, y);
                    APPLIED.gives(at(118), a.shiftRight(by).longValue(), x, y);
                    APPLIED.gives(at(119), twice.shiftRight(width - by).longValue(), x, y);
                    APPLIED.gives(at(120), twice.shiftRight(by).longValue(), x, y);
                }
            }
        }
        APPLIED.gives(at(116), 1, 1, width);
        APPLIED.gives(at(116), least, 1, width - 1);
        APPLIED.gives(at(116), 2, 1, width + 1);
        APPLIED.gives(at(116), least, 1, Outcome.cut(type, -1));
        APPLIED.gives(at(116), type == 0 ? 1 : 1L << 32, 1, 32);
    }

    private static void resultsOfTests() {
        CHECK.sentence(4, "The results of 69 .. 102 have type 0.");
        for (int operator = 69; operator <= 102; operator++) {
            Held held = new Held(CHECK);
            for (int i = 0; i < Facts.operands(operator); i++) {
                held.push(Facts.type(operator), 0);
            }
            int tested = operator;
            held.due("apply(" + tested + ")", n -> n.apply(tested), 0);
            held.due("type(0)", n -> n.type(0), 0);
            held.due("type(1)", n -> n.type(1), -1);
        }
        new Applied(CHECK).gives(103, 31, 1);
        new Applied(CHECK).gives(121, 63, 1);
    }

    private static void lowestBits() {
        CHECK.sentence(4, "192, 193 (type 0): the lowest 8, 16 bits with sign. 194, 195, 196 (type 1): 8, 16, 32.");
        int[][] operators = {{192, 8}, {193, 16}, {194, 8}, {195, 16}, {196, 32}};
        for (int[] row : operators) {
            long half = 1L << (row[1] - 1);
            APPLIED.gives(row[0], 0, 0);
            APPLIED.gives(row[0], 1, 1);
            APPLIED.gives(row[0], half - 1, half - 1);
            APPLIED.gives(row[0], -half, half);
            APPLIED.gives(row[0], -half + 1, half + 1);
            APPLIED.gives(row[0], -1, 2 * half - 1);
            APPLIED.gives(row[0], 0, 2 * half);
            APPLIED.gives(row[0], half - 1, Outcome.cut(Facts.type(row[0]), -half - 1));
            APPLIED.gives(row[0], -1, Outcome.cut(Facts.type(row[0]), -1));
        }
        CHECK.sentence(4, "167 to type 0 from type 1, its lowest bits.");
        for (long bits : Edges.LONGS) {
            APPLIED.gives(167, bits & 0xFFFFFFFFL, bits);
        }
    }

    private BigInteger plain(long row) {
        return new BigInteger(Long.toUnsignedString(row));
    }
}
