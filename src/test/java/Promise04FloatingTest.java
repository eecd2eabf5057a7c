/** Promise 4, with the 'Terms' on operators of floating numbers: each sentence under FLOATING, on both its sides. */
final class Promise04FloatingTest {
    private static final Check CHECK = new Check("Promise04FloatingTest");
    private static final Applied APPLIED = new Applied(CHECK);
    private static final int WITHOUT_SIGN = 139;
    private static final int OTHER_SIGN = 140;
    private static final int CEILING = 141;
    private static final int FLOOR = 142;
    private static final int TOWARDS_ZERO = 143;
    private static final int NEAREST = 144;
    private static final int ROOT = 145;
    private static final int ADD = 146;
    private static final int SUBTRACT = 147;
    private static final int MULTIPLY = 148;
    private static final int DIVIDE = 149;
    private static final int LESSER = 150;
    private static final int GREATER = 151;
    private static final int SIGN_OF_SECOND = 152;

    private final Rows r;
    private final long minusZero;
    private final long minusInfinite;
    /** Numbers on the edges that are neither ZERO nor INFINITE, without sign. */
    private final long[] others;

    private Promise04FloatingTest(Rows rows) {
        r = rows;
        minusZero = r.minus(0);
        minusInfinite = r.minus(r.infinite);
        others = new long[] {
            r.smallest, r.greatestSmall, r.leastOther, r.one - 1, r.one, r.one + 1, r.greatest - 1, r.greatest};
    }

    public static void main(String[] args) {
        for (int type = 2; type <= 3; type++) {
            Promise04FloatingTest test = new Promise04FloatingTest(new Rows(type));
            test.comparedByTheNumbers();
            test.zeroIsZero();
            test.comparedWithANone();
            test.withANone();
            test.infiniteLessInfinite();
            test.zeroTimesInfinite();
            test.zeroByZero();
            test.infiniteByInfinite();
            test.rootBelowZero();
            test.onlyTheSignChanges();
            test.sumsThatAreZero();
            test.signsOfProducts();
            test.rootOfAZero();
            test.wholeNumbersThatAreZero();
            test.wholeNumbers();
            test.anotherNumberByZero();
            test.infiniteWithOthers();
            test.zerosInOrder();
        }
        nonesOfTheOtherType();
        CHECK.end();
    }

    private String ofType() {
        return " (type " + r.type + ")";
    }

    private void gives(int operator, long bits, long... operands) {
        int ofType3 = operator < 97 ? operator + 6 : operator + 14;
        APPLIED.gives(r.type == 2 ? operator : ofType3, bits, operands);
    }

    /** With each sign that the two can have, the result having the sign that they make. */
    private void withSigns(int operator, long bits, long x, long y) {
        gives(operator, bits, x, y);
        gives(operator, bits, r.minus(x), r.minus(y));
        gives(operator, r.minus(bits), r.minus(x), y);
        gives(operator, r.minus(bits), x, r.minus(y));
    }

    /** With each sign that the two can have, the result being the same. */
    private void withAnySigns(int operator, long bits, long x, long y) {
        gives(operator, bits, x, y);
        gives(operator, bits, r.minus(x), y);
        gives(operator, bits, x, r.minus(y));
        gives(operator, bits, r.minus(x), r.minus(y));
    }

    private long[] rising() {
        return new long[] {
            minusInfinite, r.minus(r.greatest), r.minus(r.one + 1), r.minus(r.one), r.minus(r.leastOther),
            r.minus(r.greatestSmall), r.minus(r.smallest), 0, r.smallest, r.greatestSmall, r.leastOther, r.one,
            r.one + 1, r.greatest, r.infinite};
    }

    private void comparedByTheNumbers() {
        CHECK.sentence(4, "x = y, not =, <, >, <=, >= by the numbers" + ofType());
        long[] rising = rising();
        for (int i = 0; i < rising.length; i++) {
            for (int k = 0; k < rising.length; k++) {
                tests(Integer.compare(i, k), rising[i], rising[k]);
            }
        }
    }

    private void tests(int order, long x, long y) {
        gives(91, order == 0 ? 1 : 0, x, y);
        gives(92, order != 0 ? 1 : 0, x, y);
        gives(93, order < 0 ? 1 : 0, x, y);
        gives(94, order > 0 ? 1 : 0, x, y);
        gives(95, order <= 0 ? 1 : 0, x, y);
        gives(96, order >= 0 ? 1 : 0, x, y);
    }

    private void zeroIsZero() {
        CHECK.sentence(4, "ZERO is ZERO with any sign" + ofType());
        tests(0, 0, 0);
        tests(0, 0, minusZero);
        tests(0, minusZero, 0);
        tests(0, minusZero, minusZero);
        tests(-1, minusZero, r.smallest);
        tests(1, minusZero, r.minus(r.smallest));
        tests(-1, r.minus(r.smallest), minusZero);
        tests(1, r.smallest, minusZero);
    }

    private void comparedWithANone() {
        CHECK.sentence(4, "with a NONE only not = is so" + ofType());
        long[] rows = {0, minusZero, r.one, r.minus(r.one), r.infinite, minusInfinite, r.none, r.minus(r.infinite + 1)};
        for (long none : r.nones()) {
            testsOfNone(none, none);
            for (long row : rows) {
                testsOfNone(none, row);
                testsOfNone(row, none);
            }
        }
        tests(0, r.infinite, r.infinite);
        tests(0, minusInfinite, minusInfinite);
    }

    private void testsOfNone(long x, long y) {
        for (int operator = 91; operator <= 96; operator++) {
            gives(operator, operator == 92 ? 1 : 0, x, y);
        }
    }

    private void withANone() {
        CHECK.sentence(4, "with a NONE, 141 .. 151, 155 .. 165, .. give THE NONE" + ofType());
        CHECK.due("THE NONE", r.none, r.type == 2 ? 0x7FC00000L : 0x7FF8000000000000L);
        long[] rows = {0, minusZero, r.smallest, r.one, r.minus(r.greatest), r.infinite, minusInfinite, r.none};
        for (long none : r.nones()) {
            for (int operator = CEILING; operator <= ROOT; operator++) {
                gives(operator, r.none, none);
            }
            for (int operator = ADD; operator <= GREATER; operator++) {
                gives(operator, r.none, none, none);
                for (long row : rows) {
                    gives(operator, r.none, none, row);
                    gives(operator, r.none, row, none);
                }
            }
        }
    }

    private static void nonesOfTheOtherType() {
        CHECK.sentence(4, "with a NONE, .. 182, 187 give THE NONE");
        Rows single = new Rows(2);
        Rows wide = new Rows(3);
        for (long none : wide.nones()) {
            APPLIED.gives(182, single.none, none);
        }
        for (long none : single.nones()) {
            APPLIED.gives(187, wide.none, none);
        }
        APPLIED.gives(182, single.none, wide.infinite + 1);
        APPLIED.gives(182, single.none, -1);
        APPLIED.gives(187, wide.none, 0xFFFFFFFFL);
        APPLIED.gives(182, single.infinite, wide.infinite);
        APPLIED.gives(182, single.minus(single.infinite), wide.minus(wide.infinite));
        APPLIED.gives(187, wide.infinite, single.infinite);
        APPLIED.gives(187, wide.minus(wide.infinite), single.minus(single.infinite));
    }

    private void infiniteLessInfinite() {
        CHECK.sentence(4, "so do INFINITE less INFINITE (and the like)" + ofType());
        gives(SUBTRACT, r.none, r.infinite, r.infinite);
        gives(SUBTRACT, r.none, minusInfinite, minusInfinite);
        gives(ADD, r.none, r.infinite, minusInfinite);
        gives(ADD, r.none, minusInfinite, r.infinite);
        gives(ADD, r.infinite, r.infinite, r.infinite);
        gives(ADD, minusInfinite, minusInfinite, minusInfinite);
        gives(SUBTRACT, r.infinite, r.infinite, minusInfinite);
        gives(SUBTRACT, minusInfinite, minusInfinite, r.infinite);
        gives(SUBTRACT, r.infinite, r.infinite, r.greatest);
        gives(SUBTRACT, minusInfinite, r.greatest, r.infinite);
    }

    private void zeroTimesInfinite() {
        CHECK.sentence(4, "ZERO times INFINITE" + ofType());
        withAnySigns(MULTIPLY, r.none, 0, r.infinite);
        withAnySigns(MULTIPLY, r.none, r.infinite, 0);
        withSigns(MULTIPLY, r.infinite, r.smallest, r.infinite);
        withSigns(MULTIPLY, r.infinite, r.infinite, r.smallest);
        withSigns(MULTIPLY, 0, 0, r.greatest);
        withSigns(MULTIPLY, 0, r.greatest, 0);
    }

    private void zeroByZero() {
        CHECK.sentence(4, "ZERO by ZERO" + ofType());
        withAnySigns(DIVIDE, r.none, 0, 0);
        withSigns(DIVIDE, r.infinite, r.smallest, 0);
        withSigns(DIVIDE, 0, 0, r.smallest);
        withSigns(MULTIPLY, 0, 0, 0);
    }

    private void infiniteByInfinite() {
        CHECK.sentence(4, "INFINITE by INFINITE" + ofType());
        withAnySigns(DIVIDE, r.none, r.infinite, r.infinite);
        withSigns(DIVIDE, r.infinite, r.infinite, r.greatest);
        withSigns(DIVIDE, 0, r.greatest, r.infinite);
        withSigns(DIVIDE, 0, 0, r.infinite);
        withSigns(DIVIDE, r.infinite, r.infinite, 0);
        withSigns(MULTIPLY, r.infinite, r.infinite, r.infinite);
    }

    private void rootBelowZero() {
        CHECK.sentence(4, "and the root of what is below ZERO." + ofType());
        for (long other : others) {
            gives(ROOT, r.none, r.minus(other));
        }
        gives(ROOT, r.none, minusInfinite);
        gives(ROOT, minusZero, minusZero);
        gives(ROOT, 0, 0);
        gives(ROOT, r.one, r.one);
        gives(ROOT, r.infinite, r.infinite);
    }

    private void onlyTheSignChanges() {
        CHECK.sentence(4, "139, 140, 152 (153, 154, 166) only change the sign, whatever x is." + ofType());
        long[] rows = {
            0, r.smallest, r.greatestSmall, r.leastOther, r.one, r.greatest, r.infinite, r.infinite + 1, r.none - 1,
            r.none, r.none + 1, r.signBit - 1};
        for (long row : rows) {
            gives(WITHOUT_SIGN, row, row);
            gives(WITHOUT_SIGN, row, r.minus(row));
            gives(OTHER_SIGN, r.minus(row), row);
            gives(OTHER_SIGN, row, r.minus(row));
            for (long other : rows) {
                gives(SIGN_OF_SECOND, row, row, other);
                gives(SIGN_OF_SECOND, row, r.minus(row), other);
                gives(SIGN_OF_SECOND, r.minus(row), row, r.minus(other));
                gives(SIGN_OF_SECOND, r.minus(row), r.minus(row), r.minus(other));
            }
        }
    }

    private void sumsThatAreZero() {
        CHECK.sentence(4,
            "A sum that is exactly 0 is ZERO without sign, but with sign if both have it (the second one being"
            + " turned for x - y)" + ofType());
        gives(ADD, 0, 0, 0);
        gives(ADD, 0, 0, minusZero);
        gives(ADD, 0, minusZero, 0);
        gives(ADD, minusZero, minusZero, minusZero);
        gives(SUBTRACT, 0, 0, 0);
        gives(SUBTRACT, 0, 0, minusZero);
        gives(SUBTRACT, minusZero, minusZero, 0);
        gives(SUBTRACT, 0, minusZero, minusZero);
        for (long other : others) {
            gives(ADD, 0, other, r.minus(other));
            gives(ADD, 0, r.minus(other), other);
            gives(SUBTRACT, 0, other, other);
            gives(SUBTRACT, 0, r.minus(other), r.minus(other));
            gives(ADD, other, other, minusZero);
            gives(ADD, r.minus(other), 0, r.minus(other));
            gives(SUBTRACT, r.minus(other), minusZero, other);
        }
        gives(SUBTRACT, r.minus(r.smallest), r.greatestSmall, r.leastOther);
        gives(SUBTRACT, r.smallest, r.leastOther, r.greatestSmall);
    }

    private void signsOfProducts() {
        CHECK.sentence(4, "products and quotients have the sign that the operands' make" + ofType());
        for (long other : others) {
            withSigns(MULTIPLY, other, other, r.one);
            withSigns(MULTIPLY, other, r.one, other);
            withSigns(MULTIPLY, 0, 0, other);
            withSigns(MULTIPLY, r.infinite, other, r.infinite);
            withSigns(DIVIDE, other, other, r.one);
            withSigns(DIVIDE, r.one, other, other);
            withSigns(DIVIDE, 0, 0, other);
            withSigns(DIVIDE, 0, other, r.infinite);
            withSigns(DIVIDE, r.infinite, r.infinite, other);
        }
        withSigns(MULTIPLY, 0, 0, 0);
        withSigns(MULTIPLY, 0, r.smallest, r.smallest);
        withSigns(MULTIPLY, r.infinite, r.greatest, r.greatest);
        withSigns(DIVIDE, 0, r.smallest, r.greatest);
        withSigns(DIVIDE, r.infinite, r.greatest, r.smallest);
    }

    private void rootOfAZero() {
        CHECK.sentence(4, "the root of a ZERO is that" + ofType());
        gives(ROOT, 0, 0);
        gives(ROOT, minusZero, minusZero);
        gives(ROOT, r.type == 2 ? 0x1A3504F3L : 0x1E60000000000000L, r.smallest);
    }

    private void wholeNumbersThatAreZero() {
        CHECK.sentence(4, "whole numbers that are 0 keep the sign of x (141 .. 144)." + ofType());
        for (int operator = CEILING; operator <= NEAREST; operator++) {
            gives(operator, 0, 0);
            gives(operator, minusZero, minusZero);
        }
        long[] belowOne = {
            r.smallest, r.greatestSmall, r.leastOther, r.power(-64), r.power(-63), r.power(-2), r.power(-1) - 1,
            r.power(-1), r.power(-1) + 1, r.one - 1};
        for (long row : belowOne) {
            boolean isAboveHalf = row > r.power(-1);
            wholes(row, r.one, 0, 0, isAboveHalf ? r.one : 0);
            wholes(r.minus(row), minusZero, r.minus(r.one), minusZero, isAboveHalf ? r.minus(r.one) : minusZero);
        }
        wholes(r.one, r.one, r.one, r.one, r.one);
        wholes(r.minus(r.one), r.minus(r.one), r.minus(r.one), r.minus(r.one), r.minus(r.one));
    }

    private void wholes(long x, long ceiling, long floor, long towardsZero, long nearest) {
        gives(CEILING, ceiling, x);
        gives(FLOOR, floor, x);
        gives(TOWARDS_ZERO, towardsZero, x);
        gives(NEAREST, nearest, x);
    }

    private void wholeNumbers() {
        CHECK.sentence(4,
            "the least whole number that is not less; the greatest that is not greater; towards 0; the nearest,"
            + " of two the even one" + ofType());
        for (int whole = 1; whole <= 8; whole++) {
            long x = r.number(whole);
            long next = r.number(whole + 1);
            long half = r.number(whole + 0.5);
            around(x, x, x, x);
            around(x + 1, next, x, x);
            around(half - 1, next, x, x);
            around(half, next, x, whole % 2 == 0 ? x : next);
            around(half + 1, next, x, next);
            around(next - 1, next, x, next);
        }
        // Where the lowest bit is a half, and where it is 1.
        long wholeFromHere = r.power(r.fractionBits);
        around(wholeFromHere - 1, wholeFromHere, wholeFromHere - 2, wholeFromHere);
        around(wholeFromHere - 2, wholeFromHere - 2, wholeFromHere - 2, wholeFromHere - 2);
        around(wholeFromHere - 3, wholeFromHere - 2, wholeFromHere - 4, wholeFromHere - 4);
        long[] rows = {
            wholeFromHere, wholeFromHere + 1, r.power(62), r.power(63) + 1, r.power(64), r.greatest, r.infinite};
        for (long row : rows) {
            around(row, row, row, row);
        }
    }

    /** For x and for x with sign, where up and down change places. */
    private void around(long x, long up, long down, long nearest) {
        wholes(x, up, down, down, nearest);
        wholes(r.minus(x), r.minus(down), r.minus(up), r.minus(down), r.minus(nearest));
    }

    private void anotherNumberByZero() {
        CHECK.sentence(4, "Another number by ZERO is INFINITE" + ofType());
        for (long other : others) {
            withSigns(DIVIDE, r.infinite, other, 0);
        }
        withSigns(DIVIDE, r.infinite, r.infinite, 0);
        withAnySigns(DIVIDE, r.none, 0, 0);
        for (long none : r.nones()) {
            gives(DIVIDE, r.none, none, 0);
            gives(DIVIDE, r.none, none, minusZero);
        }
    }

    private void infiniteWithOthers() {
        CHECK.sentence(4, "INFINITE with others as usual." + ofType());
        for (long size : others) {
            for (long other : new long[] {size, r.minus(size), 0, minusZero}) {
                gives(ADD, r.infinite, r.infinite, other);
                gives(ADD, r.infinite, other, r.infinite);
                gives(ADD, minusInfinite, minusInfinite, other);
                gives(ADD, minusInfinite, other, minusInfinite);
                gives(SUBTRACT, r.infinite, r.infinite, other);
                gives(SUBTRACT, minusInfinite, other, r.infinite);
                gives(SUBTRACT, minusInfinite, minusInfinite, other);
                gives(SUBTRACT, r.infinite, other, minusInfinite);
                gives(LESSER, other, r.infinite, other);
                gives(GREATER, r.infinite, other, r.infinite);
                gives(LESSER, minusInfinite, other, minusInfinite);
                gives(GREATER, other, minusInfinite, other);
            }
            withSigns(MULTIPLY, r.infinite, size, r.infinite);
            withSigns(MULTIPLY, r.infinite, r.infinite, size);
            withSigns(DIVIDE, r.infinite, r.infinite, size);
            withSigns(DIVIDE, 0, size, r.infinite);
        }
        wholes(r.infinite, r.infinite, r.infinite, r.infinite, r.infinite);
        wholes(minusInfinite, minusInfinite, minusInfinite, minusInfinite, minusInfinite);
        gives(ROOT, r.infinite, r.infinite);
        withSigns(DIVIDE, r.infinite, r.infinite, 0);
        withSigns(DIVIDE, 0, 0, r.infinite);
    }

    private void zerosInOrder() {
        CHECK.sentence(4, "ZERO with sign is less than ZERO without for the lesser and the greater." + ofType());
        gives(LESSER, minusZero, minusZero, 0);
        gives(LESSER, minusZero, 0, minusZero);
        gives(LESSER, 0, 0, 0);
        gives(LESSER, minusZero, minusZero, minusZero);
        gives(GREATER, 0, minusZero, 0);
        gives(GREATER, 0, 0, minusZero);
        gives(GREATER, 0, 0, 0);
        gives(GREATER, minusZero, minusZero, minusZero);
        gives(LESSER, r.minus(r.smallest), r.minus(r.smallest), minusZero);
        gives(GREATER, minusZero, r.minus(r.smallest), minusZero);
        gives(LESSER, 0, r.smallest, 0);
        gives(GREATER, r.smallest, 0, r.smallest);
        long[] rising = rising();
        for (int i = 0; i < rising.length; i++) {
            for (int k = 0; k < rising.length; k++) {
                gives(LESSER, rising[Math.min(i, k)], rising[i], rising[k]);
                gives(GREATER, rising[Math.max(i, k)], rising[i], rising[k]);
            }
        }
    }
}
