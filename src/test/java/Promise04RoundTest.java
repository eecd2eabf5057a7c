/** Promise 4, with the 'Terms' on TO ROUND and on what a floating value is: the edges of each sentence. */
final class Promise04RoundTest {
    private static final Check CHECK = new Check("Promise04RoundTest");
    private static final Applied APPLIED = new Applied(CHECK);
    private static final int ROOT = 145;
    private static final int ADD = 146;
    private static final int SUBTRACT = 147;
    private static final int MULTIPLY = 148;
    private static final int DIVIDE = 149;

    private final Rows r;

    private Promise04RoundTest(Rows rows) {
        r = rows;
    }

    public static void main(String[] args) {
        for (int type = 2; type <= 3; type++) {
            Promise04RoundTest test = new Promise04RoundTest(new Rows(type));
            test.whatAValueIs();
            test.sumsToTheNearest();
            test.productsToTheNearest();
            test.quotientsToTheNearest();
            test.rootsToTheNearest();
            test.ofTwoTheEvenOne();
            test.ofTwoTheEvenOneNearZero();
            test.asGreatAsInfinite();
            test.productsAsGreatAsInfinite();
            test.withTheSign();
            test.anExactZero();
        }
        wholeNumbersToTheNearest();
        type3ToType2();
        CHECK.end();
    }

    private String ofType() {
        return " (type " + r.type + ")";
    }

    private void gives(int operator, long bits, long... operands) {
        APPLIED.gives(r.type == 2 ? operator : operator + 14, bits, operands);
    }

    /** The same with each sign: what a product or quotient has is the sign that the operands' make. */
    private void withSigns(int operator, long bits, long x, long y) {
        gives(operator, bits, x, y);
        gives(operator, bits, r.minus(x), r.minus(y));
        gives(operator, r.minus(bits), r.minus(x), y);
        gives(operator, r.minus(bits), x, r.minus(y));
    }

    /** A sum and the same sum with all signs turned, each as a difference too. */
    private void sum(long bits, long x, long y) {
        gives(ADD, bits, x, y);
        gives(ADD, bits, y, x);
        gives(SUBTRACT, bits, x, r.minus(y));
        gives(ADD, r.minus(bits), r.minus(x), r.minus(y));
        gives(SUBTRACT, r.minus(bits), r.minus(x), y);
    }

    private void whatAValueIs() {
        CHECK.sentence(4,
            "f * 2 ^ (2 - E - P), e being 0; .. otherwise (2 ^ (P - 1) + f) * 2 ^ (e + 1 - E - P)." + ofType());
        withSigns(MULTIPLY, r.power(1 - r.fractionBits), r.smallest, r.power(r.middle));
        withSigns(DIVIDE, r.power(r.fractionBits), r.leastOther, r.smallest);
        withSigns(DIVIDE, r.power(r.fractionBits) - 2, r.greatestSmall, r.smallest);
        withSigns(DIVIDE, r.power(r.fractionBits) + 1, r.leastOther + 1, r.smallest);
        sum(r.leastOther, r.greatestSmall, r.smallest);
        sum(r.leastOther + 1, r.leastOther, r.smallest);
        sum(r.greatestSmall, r.leastOther, r.minus(r.smallest));
        sum(r.one + 1, r.one, r.power(-r.fractionBits));
        sum(r.power(r.middle), r.power(r.middle - 1), r.power(r.middle - 1));
        sum(r.greatest, r.power(r.middle), r.row(2 * r.middle - 1, (1L << r.fractionBits) - 2));
        withSigns(MULTIPLY, r.leastOther, r.power(-r.middle / 2), r.power(1 - r.middle + r.middle / 2));
    }

    private void sumsToTheNearest() {
        CHECK.sentence(4, "TO ROUND .. to the value that is nearest (sums)" + ofType());
        long half = r.power(-r.fractionBits - 1);
        long quarter = r.power(-r.fractionBits - 2);
        sum(r.one, r.one, half - 1);
        sum(r.one + 1, r.one, half + 1);
        sum(r.one + 1, r.one + 1, half - 1);
        sum(r.one + 2, r.one + 1, half + 1);
        sum(r.one, r.one, r.smallest);
        sum(r.one, r.one, r.minus(r.smallest));
        sum(r.one, r.one, r.minus(quarter - 1));
        sum(r.one - 1, r.one, r.minus(quarter + 1));
        sum(r.one - 1, r.one, r.minus(half));
        sum(r.one - 1, r.one, r.minus(half + quarterStep() - 1));
        sum(r.power(1), r.power(1) - 1, half + 1);
        sum(r.power(1) - 1, r.power(1) - 1, half - 1);
        sum(r.greatest, r.greatest, r.minus(r.smallest));
        sum(r.greatest, r.greatest, r.smallest);
        sum(r.power(r.middle), r.power(r.middle), r.one);
    }

    /** From 1/2 of a step to 3/4 of it, in the last places of the row. */
    private long quarterStep() {
        return 1L << (r.fractionBits - 1);
    }

    private void productsToTheNearest() {
        CHECK.sentence(4, "TO ROUND .. to the value that is nearest (products)" + ofType());
        long oneAndAQuarter = r.number(1.25);
        withSigns(MULTIPLY, oneAndAQuarter + 1, r.one + 1, oneAndAQuarter);
        withSigns(MULTIPLY, oneAndAQuarter + 4, r.one + 3, oneAndAQuarter);
        withSigns(MULTIPLY, r.one + 2, r.one + 1, r.one + 1);
        withSigns(MULTIPLY, r.one - 2, r.one - 1, r.one - 1);
        // Above and below half a step by no more than the square of a step.
        withSigns(MULTIPLY, r.number(1.5) + 3, r.one + 1, r.number(1.5) + 1);
        withSigns(MULTIPLY, r.number(1.5) + 3, r.one + 3, r.number(1.5) - 1);
        withSigns(MULTIPLY, r.smallest, r.smallest, r.power(-1) + 1);
        withSigns(MULTIPLY, 0, r.smallest, r.power(-1) - 1);
        withSigns(MULTIPLY, r.smallest, r.smallest, r.number(1.5) - 1);
        withSigns(MULTIPLY, 2, r.smallest, r.number(1.5) + 1);
        withSigns(MULTIPLY, r.leastOther, r.leastOther, r.one - 1);
        withSigns(MULTIPLY, r.greatestSmall, r.leastOther, r.one - 2);
        withSigns(MULTIPLY, 0, r.smallest, r.smallest);
        withSigns(MULTIPLY, 0, r.leastOther, r.leastOther);
    }

    private void quotientsToTheNearest() {
        CHECK.sentence(4, "TO ROUND .. to the value that is nearest (quotients)" + ofType());
        withSigns(DIVIDE, r.type == 2 ? 0x3EAAAAABL : 0x3FD5555555555555L, r.one, r.number(3));
        withSigns(DIVIDE, r.type == 2 ? 0x3F2AAAABL : 0x3FE5555555555555L, r.number(2), r.number(3));
        withSigns(DIVIDE, r.type == 2 ? 0x3DCCCCCDL : 0x3FB999999999999AL, r.one, r.number(10));
        withSigns(DIVIDE, r.one - 2, r.one, r.one + 1);
        withSigns(DIVIDE, r.one + 1, r.one, r.one - 1);
        withSigns(DIVIDE, r.one - 1, r.one - 2, r.one - 1);
        withSigns(DIVIDE, r.smallest, r.smallest, r.power(1) - 1);
        withSigns(DIVIDE, 0, r.smallest, r.power(1) + 1);
        withSigns(DIVIDE, 0, r.smallest, r.greatest);
        withSigns(DIVIDE, 0, r.greatestSmall, r.greatest);
        withSigns(DIVIDE, r.greatestSmall, r.greatestSmall, r.one);
        withSigns(DIVIDE, r.leastOther, r.greatestSmall, r.one - 2);
    }

    private void rootsToTheNearest() {
        CHECK.sentence(4, "TO ROUND .. to the value that is nearest (roots)" + ofType());
        gives(ROOT, r.type == 2 ? 0x3FB504F3L : 0x3FF6A09E667F3BCDL, r.number(2));
        gives(ROOT, r.type == 2 ? 0x3FDDB3D7L : 0x3FFBB67AE8584CAAL, r.number(3));
        gives(ROOT, r.type == 2 ? 0x5F7FFFFFL : 0x5FEFFFFFFFFFFFFFL, r.greatest);
        gives(ROOT, r.type == 2 ? 0x1A3504F3L : 0x1E60000000000000L, r.smallest);
        gives(ROOT, r.type == 2 ? 0x1FFFFFFFL : 0x1FFFFFFFFFFFFFFFL, r.greatestSmall);
        gives(ROOT, r.type == 2 ? 0x20000000L : 0x2000000000000000L, r.leastOther);
        gives(ROOT, r.one, r.one + 1);
        gives(ROOT, r.one + 1, r.one + 2);
        gives(ROOT, r.one + 1, r.one + 3);
        gives(ROOT, r.one - 1, r.one - 1);
        gives(ROOT, r.one - 1, r.one - 2);
        gives(ROOT, r.number(3), r.number(9));
        gives(ROOT, r.number(3) + 1, r.number(9) + 1);
        gives(ROOT, r.number(3) - 1, r.number(9) - 1);
        // As little above half a step as a root can be.
        if (r.type == 2) {
            gives(ROOT, r.number(11771814 / 2048.0), r.number(2 * 16519498));
        } else {
            gives(ROOT, r.number(7421367646183515.0 / 67108864), r.number(12229483590213572.0));
            gives(ROOT, r.number(6089431235927974.0 / 67108864), r.number(8233674359446949.0));
        }
    }

    private void ofTwoTheEvenOne() {
        CHECK.sentence(4, "of two the one whose lowest bit is 0" + ofType());
        long half = r.power(-r.fractionBits - 1);
        long quarter = r.power(-r.fractionBits - 2);
        sum(r.one, r.one, half);
        sum(r.one + 2, r.one + 1, half);
        sum(r.one + 2, r.one + 2, half);
        sum(r.one + 4, r.one + 3, half);
        sum(r.power(1), r.power(1) - 1, half);
        sum(r.power(1) - 2, r.power(1) - 2, half);
        sum(r.one, r.one, r.minus(quarter));
        sum(r.one - 2, r.one - 1, r.minus(quarter));
        sum(r.one, r.one + 1, r.minus(half));
        sum(r.one + 2, r.one + 2, r.minus(half));
        long oneAndAHalf = r.number(1.5);
        withSigns(MULTIPLY, oneAndAHalf + 2, r.one + 1, oneAndAHalf);
        withSigns(MULTIPLY, oneAndAHalf + 4, r.one + 3, oneAndAHalf);
        withSigns(MULTIPLY, oneAndAHalf + 8, r.one + 5, oneAndAHalf);
    }

    private void ofTwoTheEvenOneNearZero() {
        CHECK.sentence(4, "of two the one whose lowest bit is 0 (e being 0)" + ofType());
        long[][] halves = {{1, 0}, {3, 2}, {5, 2}, {7, 4}, {9, 4}};
        for (long[] row : halves) {
            withSigns(MULTIPLY, row[1], row[0], r.power(-1));
            withSigns(DIVIDE, row[1], row[0], r.power(1));
        }
        withSigns(MULTIPLY, r.leastOther >> 1, r.leastOther + 1, r.power(-1));
        withSigns(MULTIPLY, (r.leastOther >> 1) + 2, r.leastOther + 3, r.power(-1));
        withSigns(MULTIPLY, r.leastOther, r.row(2, 0) - 1, r.power(-1));
        withSigns(MULTIPLY, r.greatestSmall - 1, r.row(2, 0) - 3, r.power(-1));
        withSigns(MULTIPLY, r.greatestSmall - 1, r.leastOther, r.one - 3);
        withSigns(DIVIDE, r.leastOther, r.row(2, 0) - 1, r.power(1));
    }

    private void asGreatAsInfinite() {
        CHECK.sentence(4,
            "as if there were no greatest exponent; what is then as great as INFINITE would be by the rule for"
            + " others, or greater, is INFINITE" + ofType());
        long half = r.power(r.middle - r.fractionBits - 1);
        sum(r.greatest, r.greatest, 0);
        sum(r.greatest, r.greatest, half - 1);
        sum(r.infinite, r.greatest, half);
        sum(r.infinite, r.greatest, half + 1);
        sum(r.infinite, r.greatest, r.power(r.middle - r.fractionBits));
        sum(r.infinite, r.greatest, r.greatest);
        sum(r.greatest, r.greatest - 1, r.power(r.middle - r.fractionBits));
        sum(r.greatest - 1, r.greatest - 1, half);
        sum(r.infinite, r.power(r.middle), r.power(r.middle));
        sum(r.infinite, r.power(r.middle), r.power(r.middle) - 1);
        sum(r.greatest, r.power(r.middle), r.power(r.middle) - 2);
        sum(r.infinite, r.power(r.middle) + 1, r.power(r.middle) - 1);
        withSigns(DIVIDE, r.greatest, r.greatest, r.one);
        withSigns(DIVIDE, r.greatest, r.greatest - 1, r.one - 1);
        withSigns(DIVIDE, r.infinite, r.greatest, r.one - 1);
        withSigns(DIVIDE, r.infinite, r.greatest, r.power(-1));
        withSigns(DIVIDE, r.power(r.middle), r.power(r.middle - 1), r.power(-1));
        withSigns(DIVIDE, r.infinite, r.power(r.middle), r.power(-1));
        withSigns(DIVIDE, r.infinite, r.one, r.smallest);
        withSigns(DIVIDE, r.infinite, r.greatest, r.smallest);
    }

    /** Products that come as near as two values can to half a step above the greatest one. */
    private void productsAsGreatAsInfinite() {
        CHECK.sentence(4, "what is then as great as INFINITE .., or greater, is INFINITE (products)" + ofType());
        withSigns(MULTIPLY, r.greatest, r.greatest, r.one);
        withSigns(MULTIPLY, r.infinite, r.greatest, r.one + 1);
        withSigns(MULTIPLY, r.infinite, r.greatest, r.greatest);
        withSigns(MULTIPLY, r.power(r.middle), r.power(r.middle - 1), r.power(1));
        withSigns(MULTIPLY, r.infinite, r.power(r.middle), r.power(1));
        withSigns(MULTIPLY, r.greatest, r.power(r.middle), r.power(1) - 1);
        if (r.type == 2) {
            withSigns(MULTIPLY, r.greatest, r.number(9024154), lifted(15595643, 128 - 47));
            withSigns(MULTIPLY, r.infinite, r.number(31), lifted(1082401, 128 - 25));
            withSigns(MULTIPLY, r.infinite, r.number(9983807), lifted(14096575, 128 - 47));
        } else {
            withSigns(MULTIPLY, r.greatest, r.number(4539964706007533.0), lifted(8935051665407381.0, 1024 - 105));
            withSigns(MULTIPLY, r.infinite, r.number(134217727), lifted(134217729, 1024 - 54));
            withSigns(MULTIPLY, r.infinite, r.number(5303967066393924.0), lifted(7648014910258985.0, 1024 - 105));
        }
    }

    private long lifted(double number, int power) {
        return r.number(number) + ((long) power << r.fractionBits);
    }

    private void withTheSign() {
        CHECK.sentence(4, "with the exact number's sign (ZERO, too)." + ofType());
        long minusZero = r.minus(0);
        gives(MULTIPLY, minusZero, r.minus(r.smallest), r.smallest);
        gives(MULTIPLY, minusZero, r.smallest, r.minus(r.power(-1)));
        gives(MULTIPLY, 0, r.minus(r.smallest), r.minus(r.power(-1)));
        gives(MULTIPLY, r.minus(r.smallest), r.minus(r.smallest), r.power(-1) + 1);
        gives(DIVIDE, minusZero, r.minus(r.smallest), r.power(1));
        gives(DIVIDE, minusZero, r.smallest, r.minus(r.greatest));
        gives(DIVIDE, 0, r.minus(r.smallest), r.minus(r.greatest));
        gives(ADD, r.minus(r.infinite), r.minus(r.greatest), r.minus(r.greatest));
        gives(SUBTRACT, r.minus(r.infinite), r.minus(r.greatest), r.greatest);
        gives(MULTIPLY, r.minus(r.infinite), r.minus(r.greatest), r.greatest);
        gives(DIVIDE, r.minus(r.infinite), r.greatest, r.minus(r.smallest));
    }

    private void anExactZero() {
        CHECK.sentence(4, "An exact 0 has the sign that is said." + ofType());
        long minusZero = r.minus(0);
        gives(ADD, 0, r.greatest, r.minus(r.greatest));
        gives(ADD, 0, r.minus(r.smallest), r.smallest);
        gives(SUBTRACT, 0, r.minus(r.one), r.minus(r.one));
        gives(ADD, minusZero, minusZero, minusZero);
        withSigns(MULTIPLY, 0, 0, r.greatest);
        withSigns(MULTIPLY, 0, r.smallest, 0);
        withSigns(DIVIDE, 0, 0, r.smallest);
        gives(ROOT, 0, 0);
        gives(ROOT, minusZero, minusZero);
        int from = r.type == 2 ? 178 : 183;
        for (int operator = from; operator < from + 4; operator++) {
            APPLIED.gives(operator, 0, 0);
        }
        int other = r.type == 2 ? 187 : 182;
        APPLIED.gives(other, 0, 0);
        APPLIED.gives(other, other == 187 ? Long.MIN_VALUE : 0x80000000L, minusZero);
    }

    private static void wholeNumbersToTheNearest() {
        CHECK.sentence(4, "TO ROUND (178 .. 181, 183 .. 186, from whole numbers)");
        Rows single = new Rows(2);
        Rows wide = new Rows(3);
        for (int top = 24; top < 64; top++) {
            if (top < 32) {
                fromWhole(single, 179, top, top < 31 ? 178 : -1);
            }
            fromWhole(single, 181, top, top < 63 ? 180 : -1);
            if (top >= 53) {
                fromWhole(wide, 186, top, top < 63 ? 185 : -1);
            }
        }
        for (long exact : new long[] {1, 3, 0x7FFFFFFFL, 0x7FFFFFFEL, 0x40000001L}) {
            APPLIED.gives(183, wide.number(exact), exact);
            APPLIED.gives(184, wide.number(exact), exact);
            APPLIED.gives(183, wide.number(-exact), -exact & 0xFFFFFFFFL);
        }
        APPLIED.gives(184, wide.number(4294967295.0), 0xFFFFFFFFL);
        APPLIED.gives(179, single.power(32), 0xFFFFFFFFL);
        APPLIED.gives(181, single.power(64), -1);
        APPLIED.gives(186, wide.power(64), -1);
        APPLIED.gives(178, single.power(31), 0x7FFFFFFFL);
        APPLIED.gives(180, single.power(63), Long.MAX_VALUE);
        APPLIED.gives(185, wide.power(63), Long.MAX_VALUE);
    }

    /** Around a half, and one and a half, of the step between values from 2 ^ top on; with sign, minus too. */
    private static void fromWhole(Rows r, int withoutSign, int top, int withSign) {
        long base = 1L << top;
        long half = 1L << (top - r.fractionBits - 1);
        long[][] rows = {{0, 0}, {half, 0}, {half + 1, 1}, {half - 1, 0}, {2 * half, 1}, {3 * half, 2},
            {3 * half - 1, 1}, {3 * half + 1, 2}, {5 * half, 2}, {base - half, 1L << r.fractionBits}};
        for (long[] row : rows) {
            long x = base + row[0];
            long due = r.power(top) + row[1];
            APPLIED.gives(withoutSign, due, x);
            if (withSign >= 0) {
                APPLIED.gives(withSign, due, x);
                APPLIED.gives(withSign, r.minus(due), Outcome.cut(Facts.type(withSign), -x));
            }
        }
    }

    private static void type3ToType2() {
        CHECK.sentence(4, "TO ROUND (182, to type 2 from type 3)");
        Rows single = new Rows(2);
        Rows wide = new Rows(3);
        long[][] rows = {
            {0x3F800000L, 0x3FF0000000000000L}, {0x3F800000L, 0x3FF0000010000000L}, {0x3F800001L, 0x3FF0000010000001L},
            {0x3F800001L, 0x3FF000002FFFFFFFL}, {0x3F800002L, 0x3FF0000030000000L}, {0x3F800000L, 0x3FEFFFFFF0000000L},
            {0x3F7FFFFFL, 0x3FEFFFFFEFFFFFFFL}, {0x40000000L, 0x3FFFFFFFF0000000L}, {0x3FFFFFFFL, 0x3FFFFFFFEFFFFFFFL},
            {single.greatest, 0x47EFFFFFE0000000L}, {single.greatest, 0x47EFFFFFEFFFFFFFL},
            {single.infinite, 0x47EFFFFFF0000000L}, {single.infinite, 0x47F0000000000000L},
            {single.infinite, wide.greatest}, {single.infinite, wide.infinite},
            {single.leastOther, 0x3810000000000000L}, {single.leastOther, 0x380FFFFFE0000000L},
            {single.greatestSmall, 0x380FFFFFDFFFFFFFL}, {single.greatestSmall, 0x380FFFFFC0000000L},
            {single.greatestSmall - 1, 0x380FFFFFA0000000L}, {2, 0x36A8000000000000L}, {1, 0x36A7FFFFFFFFFFFFL},
            {1, 0x36A0000000000000L}, {1, 0x3690000000000001L}, {0, 0x3690000000000000L}, {0, 0x368FFFFFFFFFFFFFL},
            {0, wide.leastOther}, {0, wide.greatestSmall}, {0, 1}, {0, 0}};
        for (long[] row : rows) {
            APPLIED.gives(182, row[0], row[1]);
            APPLIED.gives(182, single.minus(row[0]), wide.minus(row[1]));
        }
    }
}
