/** Promise 4: the operators on floating numbers, with answers written out, the same for both types. */
final class FloatingTest {
    private static final Check CHECK = new Check("FloatingTest");
    private static final Applied APPLIED = new Applied(CHECK);

    private static final int EQUAL = 91;
    private static final int WITHOUT_SIGN = 139;
    private static final int OTHER_SIGN = 140;
    private static final int CEILING = 141;
    private static final int FLOOR = 142;
    private static final int TOWARDS_ZERO = 143;
    private static final int NEAREST = 144;
    private static final int ROOT = 145;
    private static final int ADD = 146;
    private static final int SUBTRACT = 147;
    private static final int MULTIPLY = 148;
    private static final int DIVIDE = 149;
    private static final int LESSER = 150;
    private static final int GREATER = 151;
    private static final int SIGN_OF_SECOND = 152;

    private final Rows r;

    private FloatingTest(Rows rows) {
        r = rows;
    }

    public static void main(String[] args) {
        for (int type = 2; type <= 3; type++) {
            FloatingTest test = new FloatingTest(new Rows(type));
            test.comparisons();
            test.signs();
            test.nones();
            test.wholeNumbers();
            test.roots();
            test.sums();
            test.sumsThatAreRounded();
            test.sumsThatAreZero();
            test.products();
            test.quotients();
            test.infinites();
            test.lesserAndGreater();
        }
        literalRows();
        CHECK.end();
    }

    private void comparisons() {
        allTests(r.one, r.one, "100011");
        allTests(r.one, r.power(1), "011010");
        allTests(r.power(1), r.one, "010101");
        allTests(r.minus(r.one), r.minus(r.power(1)), "010101");
        allTests(r.minus(r.one), r.one, "011010");
        allTests(r.minus(r.smallest), 0, "011010");
        allTests(r.smallest, r.minus(0), "010101");
        allTests(0, r.minus(0), "100011");
        allTests(r.minus(0), 0, "100011");
        allTests(r.minus(0), r.minus(0), "100011");
        allTests(r.infinite, r.infinite, "100011");
        allTests(r.minus(r.infinite), r.minus(r.infinite), "100011");
        allTests(r.minus(r.infinite), r.minus(r.greatest), "011010");
        allTests(r.infinite, r.greatest, "010101");
        allTests(r.greatestSmall, r.leastOther, "011010");
        for (long none : r.nones()) {
            allTests(none, none, "010000");
            allTests(none, r.one, "010000");
            allTests(r.minus(r.infinite), none, "010000");
            allTests(0, none, "010000");
        }
    }

    /** The six answers stand in the operators' order: =, not =, <, >, <=, >=. */
    private void allTests(long x, long y, String answers) {
        for (int i = 0; i < answers.length(); i++) {
            int operator = EQUAL + i + (r.type == 3 ? 6 : 0);
            APPLIED.gives(operator, answers.charAt(i) - '0', x, y);
        }
    }

    private void signs() {
        long[] rows = {0, r.smallest, r.leastOther, r.one, r.greatest, r.infinite, r.none, r.infinite + 1, r.none + 9};
        for (long row : rows) {
            same(WITHOUT_SIGN, row, row);
            same(WITHOUT_SIGN, row, r.minus(row));
            same(OTHER_SIGN, r.minus(row), row);
            same(OTHER_SIGN, row, r.minus(row));
            for (long other : rows) {
                same(SIGN_OF_SECOND, row, row, other);
                same(SIGN_OF_SECOND, row, r.minus(row), other);
                same(SIGN_OF_SECOND, r.minus(row), row, r.minus(other));
                same(SIGN_OF_SECOND, r.minus(row), r.minus(row), r.minus(other));
            }
        }
    }

    private void nones() {
        long[] others = {0, r.minus(0), r.one, r.minus(r.smallest), r.infinite, r.minus(r.infinite), r.none};
        for (long none : r.nones()) {
            for (int operator = CEILING; operator <= ROOT; operator++) {
                same(operator, r.none, none);
            }
            for (int operator = ADD; operator <= GREATER; operator++) {
                for (long other : others) {
                    same(operator, r.none, none, other);
                    same(operator, r.none, other, none);
                }
            }
        }
    }

    private void wholeNumbers() {
        wholes(0.5, 1, 0.0, 0.0, 0.0);
        wholes(-0.5, -0.0, -1, -0.0, -0.0);
        wholes(0.75, 1, 0.0, 0.0, 1);
        wholes(-0.75, -0.0, -1, -0.0, -1);
        wholes(0.25, 1, 0.0, 0.0, 0.0);
        wholes(1, 1, 1, 1, 1);
        wholes(-1, -1, -1, -1, -1);
        wholes(1.5, 2, 1, 1, 2);
        wholes(-1.5, -1, -2, -1, -2);
        wholes(2.5, 3, 2, 2, 2);
        wholes(-2.5, -2, -3, -2, -2);
        wholes(3.5, 4, 3, 3, 4);
        wholes(7.75, 8, 7, 7, 8);
        wholes(-7.25, -7, -8, -7, -7);
        wholes(0.0, 0.0, 0.0, 0.0, 0.0);
        wholes(-0.0, -0.0, -0.0, -0.0, -0.0);
        wholes(4194303.5, 4194304, 4194303, 4194303, 4194304);
        wholes(8388607.5, 8388608, 8388607, 8388607, 8388608);
        wholes(8388606.5, 8388607, 8388606, 8388606, 8388606);
        wholes(8388609, 8388609, 8388609, 8388609, 8388609);
        long[] whole = {r.power(r.fractionBits), r.power(r.fractionBits) + 1, r.greatest, r.infinite};
        for (long row : whole) {
            for (int operator = CEILING; operator <= NEAREST; operator++) {
                same(operator, row, row);
                same(operator, r.minus(row), r.minus(row));
            }
        }
        long[] tiny = {r.smallest, r.greatestSmall, r.leastOther, r.power(-64), r.power(-1) - 1};
        for (long row : tiny) {
            rows(row, r.one, 0, 0, 0);
            rows(r.minus(row), r.minus(0), r.minus(r.one), r.minus(0), r.minus(0));
        }
        rows(r.power(-1) + 1, r.one, 0, 0, r.one);
    }

    private void wholes(double x, double ceiling, double floor, double towardsZero, double nearest) {
        rows(r.number(x), r.number(ceiling), r.number(floor), r.number(towardsZero), r.number(nearest));
    }

    private void rows(long x, long ceiling, long floor, long towardsZero, long nearest) {
        same(CEILING, ceiling, x);
        same(FLOOR, floor, x);
        same(TOWARDS_ZERO, towardsZero, x);
        same(NEAREST, nearest, x);
    }

    private void roots() {
        same(ROOT, r.number(2), r.number(4));
        same(ROOT, r.number(3), r.number(9));
        same(ROOT, r.number(1.5), r.number(2.25));
        same(ROOT, r.number(0.5), r.number(0.25));
        same(ROOT, r.one, r.one);
        same(ROOT, r.one, r.one + 1);
        same(ROOT, r.one - 1, r.one - 1);
        same(ROOT, 0, 0);
        same(ROOT, r.minus(0), r.minus(0));
        same(ROOT, r.infinite, r.infinite);
        same(ROOT, r.none, r.minus(r.infinite));
        same(ROOT, r.none, r.minus(r.one));
        same(ROOT, r.none, r.minus(r.smallest));
    }

    private void sums() {
        same(ADD, r.number(3.75), r.number(1.5), r.number(2.25));
        same(SUBTRACT, r.number(-0.75), r.number(1.5), r.number(2.25));
        same(ADD, r.number(-3), r.number(2), r.number(-5));
        same(SUBTRACT, r.number(7), r.number(2), r.number(-5));
        same(ADD, r.one, r.one, 0);
        same(ADD, r.one, r.minus(0), r.one);
        same(ADD, 2, r.smallest, r.smallest);
        same(ADD, r.leastOther, r.greatestSmall, r.smallest);
        same(SUBTRACT, r.greatestSmall, r.leastOther, r.smallest);
        same(SUBTRACT, r.minus(r.smallest), r.greatestSmall, r.leastOther);
        same(SUBTRACT, r.smallest, r.leastOther + 1, r.leastOther);
        same(SUBTRACT, r.power(-r.fractionBits), r.one + 1, r.one);
        same(SUBTRACT, r.power(-r.fractionBits - 1), r.one, r.one - 1);
    }

    private void sumsThatAreRounded() {
        long half = r.power(-r.fractionBits - 1);
        same(ADD, r.one, r.one, half);
        same(ADD, r.one + 2, r.one + 1, half);
        same(ADD, r.one + 1, r.one, half + 1);
        same(ADD, r.one, r.one, half - 1);
        same(ADD, r.minus(r.one), r.minus(r.one), r.minus(half));
        same(ADD, r.one, r.one, r.smallest);
        same(SUBTRACT, r.one, r.one, r.smallest);
        same(SUBTRACT, r.one - 1, r.one, half);
        // Below 1 the values lie twice as near, so a quarter is the half there.
        long quarter = r.power(-r.fractionBits - 2);
        same(SUBTRACT, r.one, r.one, quarter);
        same(SUBTRACT, r.one - 1, r.one, quarter + 1);
        same(SUBTRACT, r.one, r.one, quarter - 1);
        same(SUBTRACT, r.power(1) - 1, r.power(1), half + 1);
        same(ADD, r.power(1), r.power(1) - 1, half);
        long halfOfGreatest = r.power(r.middle - r.fractionBits - 1);
        same(ADD, r.infinite, r.greatest, halfOfGreatest);
        same(ADD, r.greatest, r.greatest, halfOfGreatest - 1);
        same(ADD, r.infinite, r.greatest, r.greatest);
        same(SUBTRACT, r.minus(r.infinite), r.minus(r.greatest), halfOfGreatest);
        same(SUBTRACT, r.minus(r.greatest), r.minus(r.greatest), halfOfGreatest - 1);
    }

    private void sumsThatAreZero() {
        long minusZero = r.minus(0);
        same(ADD, 0, r.one, r.minus(r.one));
        same(ADD, 0, r.minus(r.one), r.one);
        same(SUBTRACT, 0, r.one, r.one);
        same(SUBTRACT, 0, r.minus(r.smallest), r.minus(r.smallest));
        same(ADD, 0, 0, 0);
        same(ADD, 0, 0, minusZero);
        same(ADD, 0, minusZero, 0);
        same(ADD, minusZero, minusZero, minusZero);
        same(SUBTRACT, 0, 0, 0);
        same(SUBTRACT, 0, 0, minusZero);
        same(SUBTRACT, minusZero, minusZero, 0);
        same(SUBTRACT, 0, minusZero, minusZero);
    }

    private void products() {
        same(MULTIPLY, r.number(-3.75), r.number(1.5), r.number(-2.5));
        same(MULTIPLY, r.number(6), r.number(-2), r.number(-3));
        same(MULTIPLY, 0, 0, r.one);
        same(MULTIPLY, r.minus(0), r.minus(r.one), 0);
        same(MULTIPLY, r.minus(0), r.minus(0), r.one);
        same(MULTIPLY, 0, r.minus(0), r.minus(r.one));
        same(MULTIPLY, r.one + 2, r.one + 1, r.one + 1);
        same(MULTIPLY, r.one - 2, r.one - 1, r.one - 1);
        same(MULTIPLY, r.power(1) - 4, r.power(1) - 2, r.one - 2);
        same(MULTIPLY, r.greatest, r.greatest, r.one);
        same(MULTIPLY, r.infinite, r.greatest, r.one + 1);
        same(MULTIPLY, r.minus(r.infinite), r.greatest, r.minus(r.power(1)));
        same(MULTIPLY, r.infinite, r.greatest, r.greatest);
        same(MULTIPLY, 0, r.smallest, r.smallest);
        same(MULTIPLY, r.minus(0), r.smallest, r.minus(r.smallest));
        same(MULTIPLY, 0, r.smallest, r.power(-1));
        same(MULTIPLY, r.minus(0), r.minus(r.smallest), r.power(-1));
        same(MULTIPLY, r.smallest, r.smallest, r.power(-1) + 1);
        same(MULTIPLY, 2, 3, r.power(-1));
        same(MULTIPLY, 2, 5, r.power(-1));
        same(MULTIPLY, r.leastOther, r.greatestSmall, r.one + 1);
        same(MULTIPLY, r.leastOther >> 1, r.leastOther, r.power(-1));
        same(MULTIPLY, r.leastOther, r.leastOther, r.one - 1);
    }

    private void quotients() {
        same(DIVIDE, r.number(-2.5), r.number(7.5), r.number(-3));
        same(DIVIDE, r.number(2), r.number(-4), r.number(-2));
        same(DIVIDE, r.one - 2, r.one, r.one + 1);
        same(DIVIDE, r.one + 1, r.one, r.one - 1);
        same(DIVIDE, r.infinite, r.greatest, r.power(-1));
        same(DIVIDE, r.minus(r.infinite), r.greatest, r.minus(r.one - 1));
        same(DIVIDE, r.infinite, r.one, r.smallest);
        same(DIVIDE, 0, r.smallest, r.power(1));
        same(DIVIDE, r.minus(0), r.minus(r.smallest), r.greatest);
        same(DIVIDE, 2, 3, r.power(1));
        same(DIVIDE, r.one, r.smallest, r.smallest);
        same(DIVIDE, r.number(3), 3, r.smallest);
        same(DIVIDE, r.leastOther, r.greatestSmall, r.one - 2);
        long[] rows = {r.smallest, r.one, r.greatest};
        for (long row : rows) {
            same(DIVIDE, r.infinite, row, 0);
            same(DIVIDE, r.minus(r.infinite), row, r.minus(0));
            same(DIVIDE, r.minus(r.infinite), r.minus(row), 0);
            same(DIVIDE, r.infinite, r.minus(row), r.minus(0));
            same(DIVIDE, 0, 0, row);
            same(DIVIDE, r.minus(0), r.minus(0), row);
            same(DIVIDE, r.minus(0), 0, r.minus(row));
        }
        same(DIVIDE, r.none, 0, 0);
        same(DIVIDE, r.none, r.minus(0), 0);
        same(DIVIDE, r.none, 0, r.minus(0));
    }

    private void infinites() {
        long minus = r.minus(r.infinite);
        same(ADD, r.none, r.infinite, minus);
        same(ADD, r.none, minus, r.infinite);
        same(SUBTRACT, r.none, r.infinite, r.infinite);
        same(SUBTRACT, r.none, minus, minus);
        same(ADD, r.infinite, r.infinite, r.infinite);
        same(ADD, minus, minus, minus);
        same(SUBTRACT, r.infinite, r.infinite, minus);
        same(SUBTRACT, minus, minus, r.infinite);
        long[] others = {0, r.minus(0), r.smallest, r.minus(r.one), r.greatest, r.minus(r.greatest)};
        for (long other : others) {
            same(ADD, r.infinite, r.infinite, other);
            same(ADD, minus, other, minus);
            same(SUBTRACT, minus, other, r.infinite);
            same(SUBTRACT, r.infinite, r.infinite, other);
        }
        same(MULTIPLY, r.none, 0, r.infinite);
        same(MULTIPLY, r.none, minus, 0);
        same(MULTIPLY, r.none, r.infinite, r.minus(0));
        same(MULTIPLY, r.infinite, minus, minus);
        same(MULTIPLY, minus, r.infinite, r.minus(r.smallest));
        same(MULTIPLY, r.infinite, r.one, r.infinite);
        same(DIVIDE, r.none, r.infinite, r.infinite);
        same(DIVIDE, r.none, minus, r.infinite);
        same(DIVIDE, r.infinite, r.infinite, r.one);
        same(DIVIDE, minus, r.infinite, r.minus(r.greatest));
        same(DIVIDE, r.infinite, r.infinite, 0);
        same(DIVIDE, minus, r.infinite, r.minus(0));
        same(DIVIDE, 0, r.greatest, r.infinite);
        same(DIVIDE, r.minus(0), r.one, minus);
        same(DIVIDE, r.minus(0), 0, minus);
    }

    private void lesserAndGreater() {
        long[] rising = {
            r.minus(r.infinite), r.minus(r.greatest), r.minus(r.one), r.minus(r.smallest), r.minus(0),
            0, r.smallest, r.greatestSmall, r.leastOther, r.one, r.greatest, r.infinite};
        for (int i = 0; i < rising.length; i++) {
            for (int k = 0; k < rising.length; k++) {
                same(LESSER, rising[Math.min(i, k)], rising[i], rising[k]);
                same(GREATER, rising[Math.max(i, k)], rising[i], rising[k]);
            }
        }
    }

    private static void literalRows() {
        APPLIED.gives(145, 0x3FB504F3L, 0x40000000L);
        APPLIED.gives(145, 0x1A3504F3L, 1);
        APPLIED.gives(145, 0x5F7FFFFFL, 0x7F7FFFFFL);
        APPLIED.gives(145, 0x1FFFFFFFL, 0x007FFFFFL);
        APPLIED.gives(149, 0x3EAAAAABL, 0x3F800000L, 0x40400000L);
        APPLIED.gives(149, 0x3F2AAAABL, 0x40000000L, 0x40400000L);
        APPLIED.gives(148, 0x3F800000L, 0x3EAAAAABL, 0x40400000L);
        APPLIED.gives(146, 0x3E99999AL, 0x3DCCCCCDL, 0x3E4CCCCDL);
        APPLIED.gives(159, 0x3FF6A09E667F3BCDL, 0x4000000000000000L);
        APPLIED.gives(159, 0x1E60000000000000L, 1);
        APPLIED.gives(159, 0x5FEFFFFFFFFFFFFFL, 0x7FEFFFFFFFFFFFFFL);
        APPLIED.gives(163, 0x3FD5555555555555L, 0x3FF0000000000000L, 0x4008000000000000L);
        APPLIED.gives(163, 0x3FE5555555555555L, 0x4000000000000000L, 0x4008000000000000L);
        APPLIED.gives(162, 0x3FF0000000000000L, 0x3FD5555555555555L, 0x4008000000000000L);
        APPLIED.gives(160, 0x3FD3333333333334L, 0x3FB999999999999AL, 0x3FC999999999999AL);
    }

    private void same(int operator, long bits, long... operands) {
        APPLIED.gives(r.type == 2 ? operator : operator + 14, bits, operands);
    }
}
