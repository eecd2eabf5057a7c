/** Promise 4: the operators from 167 on, with answers written out. */
final class ConversionTest {
    private static final Check CHECK = new Check("ConversionTest");
    private static final Applied APPLIED = new Applied(CHECK);
    private static final Rows SINGLE = new Rows(2);
    private static final Rows DOUBLE = new Rows(3);
    private static final long LEAST_32 = 0x80000000L;
    private static final long ALL_32 = 0xFFFFFFFFL;

    public static void main(String[] args) {
        amongWholeNumbers();
        lowestBitsWithSign();
        sameBits();
        for (Rows rows : new Rows[] {SINGLE, DOUBLE}) {
            towardsZero(rows);
            whatIsNotThere(rows);
        }
        edgesOfSingle();
        edgesOfDouble();
        fromWholeNumbers();
        fromWholeNumbersRounded();
        betweenFloatingTypes();
        CHECK.end();
    }

    private static void amongWholeNumbers() {
        same(167, 0, 0x9ABCDEF0L, 0x123456789ABCDEF0L);
        same(167, 0, ALL_32, -1);
        same(167, 0, 0, 0x100000000L);
        same(172, 1, 5, 5);
        same(172, 1, -1, ALL_32);
        same(172, 1, -0x80000000L, LEAST_32);
        same(173, 1, 5, 5);
        same(173, 1, ALL_32, ALL_32);
        same(173, 1, LEAST_32, LEAST_32);
    }

    private static void lowestBitsWithSign() {
        same(192, 0, 0x7F, 0x1234567FL);
        same(192, 0, 0xFFFFFF80L, 0x12345680L);
        same(192, 0, ALL_32, 0xFF);
        same(193, 0, 0x7FFF, 0x12347FFFL);
        same(193, 0, 0xFFFF8000L, 0x12348000L);
        same(193, 0, 0x80, 0x80);
        same(194, 1, 0x7F, 0x123456789ABCDE7FL);
        same(194, 1, -128, 0x123456789ABCDE80L);
        same(195, 1, 0x7FFF, 0x123456789ABC7FFFL);
        same(195, 1, -32768, 0x123456789ABC8000L);
        same(196, 1, 0x7FFFFFFFL, 0x123456787FFFFFFFL);
        same(196, 1, -0x80000000L, 0x1234567880000000L);
        same(196, 1, 0x8000, 0x8000);
    }

    private static void sameBits() {
        for (long row : SINGLE.nones()) {
            same(188, 0, row, row);
            same(190, 2, row, row);
        }
        for (long row : DOUBLE.nones()) {
            same(189, 1, row, row);
            same(191, 3, row, row);
        }
        same(188, 0, LEAST_32, LEAST_32);
        same(189, 1, Long.MIN_VALUE, Long.MIN_VALUE);
        same(190, 2, 0x3F800000L, 0x3F800000L);
        same(191, 3, 1, 1);
    }

    /** Small numbers, for which all the targets agree; the four operators of a type are numbered alike. */
    private static void towardsZero(Rows r) {
        int[] signed = r.type == 2 ? new int[] {168, 174, 200, 204} : new int[] {170, 176, 202, 206};
        for (int operator : signed) {
            int to = operator == 168 || operator == 170 || operator == 200 || operator == 202 ? 0 : 1;
            same(operator, to, Outcome.cut(to, -1), r.number(-1));
            same(operator, to, Outcome.cut(to, -1), r.number(-1.75));
            same(operator, to, Outcome.cut(to, -123456), r.number(-123456.5));
            same(operator, to, Outcome.cut(to, -0x80000000L), r.minus(r.power(31)));
            for (int both = operator; both <= operator + 1; both++) {
                same(both, to, 0, 0);
                same(both, to, 0, r.minus(0));
                same(both, to, 0, r.smallest);
                same(both, to, 0, r.minus(r.smallest));
                same(both, to, 0, r.minus(r.power(-100)));
                same(both, to, 0, r.one - 1);
                same(both, to, 0, r.minus(r.one - 1));
                same(both, to, 1, r.one);
                same(both, to, 1, r.power(1) - 1);
                same(both, to, 123456, r.number(123456.5));
                same(both, to, 0x40000000L, r.power(30));
            }
            same(operator + 1, to, 0x80000000L, r.power(31));
        }
    }

    private static void whatIsNotThere(Rows r) {
        int[] signed = r.type == 2 ? new int[] {168, 174} : new int[] {170, 176};
        for (int operator : signed) {
            int to = operator < 172 ? 0 : 1;
            int width = to == 0 ? 32 : 64;
            int bounded = operator < 172 ? operator + 32 : operator + 30;
            long greatest = -1L >>> (65 - width);
            long greatestWithoutSign = -1L >>> (64 - width);
            for (long none : r.nones()) {
                notThere(operator, bounded, 3, to, 0, none);
                notThere(operator + 1, bounded + 1, 3, to, 0, none);
            }
            long[] tooGreat = {r.power(width), r.power(100), r.greatest, r.infinite};
            for (long row : tooGreat) {
                notThere(operator, bounded, 2, to, greatest, row);
                notThere(operator, bounded, 2, to, greatest + 1, r.minus(row));
                notThere(operator + 1, bounded + 1, 2, to, greatestWithoutSign, row);
                notThere(operator + 1, bounded + 1, 2, to, 0, r.minus(row));
            }
            notThere(operator, bounded, 2, to, greatest, r.power(width - 1));
            notThere(operator + 1, bounded + 1, 2, to, 0, r.minus(r.one));
            notThere(operator + 1, bounded + 1, 2, to, 0, r.minus(r.power(20)));
        }
    }

    private static void notThere(int operator, int bounded, int trap, int to, long bits, long x) {
        APPLIED.traps(operator, trap, x);
        same(bounded, to, bits, x);
    }

    private static void edgesOfSingle() {
        both(168, 200, 0, 0x7FFFFF80L, 0x4EFFFFFFL);
        both(168, 200, 0, LEAST_32, 0xCF000000L);
        notThere(168, 200, 2, 0, LEAST_32, 0xCF000001L);
        both(169, 201, 0, 0xFFFFFF00L, 0x4F7FFFFFL);
        both(174, 204, 1, 0x7FFFFF8000000000L, 0x5EFFFFFFL);
        both(174, 204, 1, Long.MIN_VALUE, 0xDF000000L);
        notThere(174, 204, 2, 1, Long.MIN_VALUE, 0xDF000001L);
        both(175, 205, 1, 0xFFFFFF0000000000L, 0x5F7FFFFFL);
        both(175, 205, 1, Long.MIN_VALUE, 0x5F000000L);
    }

    private static void edgesOfDouble() {
        both(170, 202, 0, 0x7FFFFFFFL, DOUBLE.number(2147483647.9999998));
        both(170, 202, 0, LEAST_32, DOUBLE.number(-2147483648.0));
        both(170, 202, 0, LEAST_32, DOUBLE.number(-2147483648.9999995));
        notThere(170, 202, 2, 0, LEAST_32, DOUBLE.number(-2147483649.0));
        both(171, 203, 0, ALL_32, DOUBLE.number(4294967295.9999995));
        both(176, 206, 1, 0x7FFFFFFFFFFFFC00L, 0x43DFFFFFFFFFFFFFL);
        both(176, 206, 1, Long.MIN_VALUE, 0xC3E0000000000000L);
        notThere(176, 206, 2, 1, Long.MIN_VALUE, 0xC3E0000000000001L);
        both(177, 207, 1, 0xFFFFFFFFFFFFF800L, 0x43EFFFFFFFFFFFFFL);
        both(177, 207, 1, 9007199254740991L, DOUBLE.number(9007199254740991.0));
    }

    private static void both(int operator, int bounded, int to, long bits, long x) {
        same(operator, to, bits, x);
        same(bounded, to, bits, x);
    }

    private static void fromWholeNumbers() {
        int[][] operators = {{178, 180, 2}, {183, 185, 3}};
        for (int[] row : operators) {
            int to = row[2];
            Rows r = to == 2 ? SINGLE : DOUBLE;
            for (int i = 0; i < 2; i++) {
                int from = i;
                same(row[i], to, 0, 0);
                same(row[i] + 1, to, 0, 0);
                same(row[i], to, r.one, 1);
                same(row[i] + 1, to, r.one, 1);
                same(row[i], to, r.minus(r.one), Outcome.cut(from, -1));
                same(row[i], to, r.number(-100), Outcome.cut(from, -100));
                int width = from == 0 ? 32 : 64;
                long least = 1L << (width - 1);
                same(row[i], to, r.minus(r.power(width - 1)), least);
                same(row[i] + 1, to, r.power(width - 1), least);
            }
        }
        same(183, 3, 0x41DFFFFFFFC00000L, 0x7FFFFFFFL);
        same(184, 3, 0x41EFFFFFFFE00000L, ALL_32);
    }

    private static void fromWholeNumbersRounded() {
        same(178, 2, 0x4B800000L, 16777217);
        same(178, 2, 0x4B800002L, 16777219);
        same(178, 2, 0xCB800000L, 0x100000000L - 16777217);
        same(178, 2, 0x4F000000L, 0x7FFFFFFFL);
        same(178, 2, 0x4EFFFFFFL, 0x7FFFFFBFL);
        same(178, 2, 0x4F000000L, 0x7FFFFFC0L);
        same(179, 2, 0x4F800000L, ALL_32);
        same(179, 2, 0x4F7FFFFFL, 0xFFFFFF7FL);
        same(179, 2, 0x4F800000L, 0xFFFFFF80L);
        same(180, 2, 0x5F000000L, Long.MAX_VALUE);
        same(180, 2, 0x5F000000L, 0x7FFFFFC000000000L);
        same(180, 2, 0x5EFFFFFFL, 0x7FFFFFBFFFFFFFFFL);
        same(181, 2, 0x5F800000L, -1);
        same(181, 2, 0x5F000000L, 0x8000008000000000L);
        same(181, 2, 0x5F000001L, 0x8000008000000001L);
        same(185, 3, 0x4340000000000000L, 9007199254740993L);
        same(185, 3, 0x4340000000000002L, 9007199254740995L);
        same(185, 3, 0xC340000000000000L, -9007199254740993L);
        same(185, 3, 0x43E0000000000000L, Long.MAX_VALUE);
        same(186, 3, 0x43F0000000000000L, -1);
        same(186, 3, 0x43E0000000000000L, 0x8000000000000400L);
        same(186, 3, 0x43E0000000000001L, 0x8000000000000401L);
        same(186, 3, 0x43EFFFFFFFFFFFFFL, 0xFFFFFFFFFFFFFBFFL);
        same(186, 3, 0x43F0000000000000L, 0xFFFFFFFFFFFFFC00L);
    }

    private static void betweenFloatingTypes() {
        // Each row: of type 2, of type 3, the same number.
        long[][] same = {
            {0, 0}, {SINGLE.one, DOUBLE.one}, {SINGLE.infinite, DOUBLE.infinite},
            {1, 0x36A0000000000000L}, {3, 0x36B8000000000000L}, {SINGLE.greatestSmall, 0x380FFFFFC0000000L},
            {SINGLE.leastOther, 0x3810000000000000L}, {SINGLE.greatest, 0x47EFFFFFE0000000L}};
        for (long[] row : same) {
            same(187, 3, row[1], row[0]);
            same(187, 3, DOUBLE.minus(row[1]), SINGLE.minus(row[0]));
            same(182, 2, row[0], row[1]);
            same(182, 2, SINGLE.minus(row[0]), DOUBLE.minus(row[1]));
        }
        for (long none : SINGLE.nones()) {
            same(187, 3, DOUBLE.none, none);
        }
        for (long none : DOUBLE.nones()) {
            same(182, 2, SINGLE.none, none);
        }
        rounded(0x3F800000L, 0x3FF0000010000000L);
        rounded(0x3F800001L, 0x3FF0000010000001L);
        rounded(0x3F800002L, 0x3FF0000030000000L);
        rounded(SINGLE.greatest, 0x47EFFFFFEFFFFFFFL);
        rounded(SINGLE.infinite, 0x47EFFFFFF0000000L);
        rounded(SINGLE.infinite, DOUBLE.greatest);
        rounded(SINGLE.leastOther, 0x380FFFFFE0000000L);
        rounded(SINGLE.greatestSmall, 0x380FFFFFDFFFFFFFL);
        rounded(0, 0x3690000000000000L);
        rounded(1, 0x3690000000000001L);
        rounded(2, 0x36A8000000000000L);
        rounded(0, DOUBLE.leastOther);
        rounded(0, 1);
    }

    private static void rounded(long due, long x) {
        same(182, 2, due, x);
        same(182, 2, SINGLE.minus(due), DOUBLE.minus(x));
    }

    private static void same(int operator, int type, long bits, long x) {
        CHECK.due("the type that " + operator + " gives", type, Facts.resultType(operator));
        APPLIED.gives(operator, bits, x);
    }
}
