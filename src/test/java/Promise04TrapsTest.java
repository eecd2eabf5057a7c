/** Promise 4, with the 'Terms' on TRAPS: each of the three, and what is just none. */
final class Promise04TrapsTest {
    private static final Check CHECK = new Check("Promise04TrapsTest");
    private static final Applied APPLIED = new Applied(CHECK);

    public static void main(String[] args) {
        for (int type = 0; type < 2; type++) {
            byZero(type);
            quotientNotThere(type);
            remainderOfTheLeast(type);
        }
        aboveTheLowest32();
        numberNotThere();
        ofANone();
        noOthers();
        CHECK.end();
    }

    private static int at(int type, int operator) {
        return type == 0 ? operator : operator + 18;
    }

    private static long least(int type) {
        return type == 0 ? 0x80000000L : Long.MIN_VALUE;
    }

    private static void byZero(int type) {
        CHECK.sentence(4, "TRAPS: 1 a quotient or remainder by 0 (whole). (type " + type + ")");
        long least = least(type);
        long minusOne = Outcome.cut(type, -1);
        long[] rows = {0, 1, 2, least - 1, least, least + 1, minusOne};
        for (int operator = 109; operator <= 112; operator++) {
            for (long x : rows) {
                APPLIED.traps(at(type, operator), 1, x, 0);
            }
        }
        for (long x : rows) {
            APPLIED.gives(at(type, 109), x, x, 1);
            APPLIED.gives(at(type, 110), x, x, 1);
            APPLIED.gives(at(type, 111), 0, x, 1);
            APPLIED.gives(at(type, 112), 0, x, 1);
            APPLIED.gives(at(type, 110), x == minusOne ? 1 : 0, x, minusOne);
            APPLIED.gives(at(type, 112), x == minusOne ? 0 : x, x, minusOne);
            APPLIED.gives(at(type, 111), 0, x, minusOne);
            if (x != least) {
                APPLIED.gives(at(type, 109), -x, x, minusOne);
            }
        }
    }

    private static void aboveTheLowest32() {
        CHECK.sentence(4, "TRAPS: 1 .. by 0 (whatever stands above the lowest 32 bits of type 0; all of type 1)");
        for (int operator = 109; operator <= 112; operator++) {
            APPLIED.traps(operator, 1, 5, 1L << 32);
            APPLIED.traps(operator, 1, 5, 1L << 63);
            APPLIED.traps(operator, 1, 5, 0xFFFFFFFF00000000L);
        }
        APPLIED.gives(127, 2, 1L << 33, 1L << 32);
        APPLIED.gives(128, 2, 1L << 33, 1L << 32);
        APPLIED.gives(129, 0, 1L << 33, 1L << 32);
        APPLIED.gives(130, 0, 1L << 33, 1L << 32);
    }

    private static void quotientNotThere(int type) {
        CHECK.sentence(4, "TRAPS: .. 2 a quotient with sign that is not there (type " + type + ")");
        long least = least(type);
        long minusOne = Outcome.cut(type, -1);
        APPLIED.traps(at(type, 109), 2, least, minusOne);
        APPLIED.gives(at(type, 109), least - 1, least + 1, minusOne);
        APPLIED.gives(at(type, 109), least + 1, least - 1, minusOne);
        APPLIED.gives(at(type, 109), least, least, 1);
        APPLIED.gives(at(type, 109), least >>> 1, least, minusOne - 1);
        APPLIED.gives(at(type, 109), 1, least, least);
        APPLIED.gives(at(type, 110), 0, least, minusOne);
        APPLIED.gives(at(type, 112), least, least, minusOne);
        if (type == 0) {
            APPLIED.traps(109, 2, 0x1280000000L | least, -1);
            APPLIED.traps(109, 2, Integer.MIN_VALUE, -1);
        } else {
            APPLIED.gives(127, -0x80000000L, 0x80000000L, -1);
            APPLIED.gives(127, 0x80000000L, -0x80000000L, -1);
            APPLIED.gives(127, Long.MIN_VALUE / 0xFFFFFFFFL, Long.MIN_VALUE, 0xFFFFFFFFL);
        }
    }

    private static void remainderOfTheLeast(int type) {
        CHECK.sentence(4, "(The remainder of the least number by -1 is 0.) (type " + type + ")");
        long least = least(type);
        long minusOne = Outcome.cut(type, -1);
        APPLIED.gives(at(type, 111), 0, least, minusOne);
        APPLIED.gives(at(type, 111), 0, least + 1, minusOne);
        APPLIED.gives(at(type, 111), 0, least, minusOne - 1);
        APPLIED.gives(at(type, 111), -2, least, minusOne - 2);
        APPLIED.gives(at(type, 112), least, least, minusOne);
        if (type == 1) {
            APPLIED.gives(129, -2, Long.MIN_VALUE, 3);
        }
    }

    private static void numberNotThere() {
        CHECK.sentence(4,
            "TRAPS: .. 2 .. 168 .. 171, 174 .. 177 of a number that, towards 0, is not there, or of INFINITE.");
        int[][] operators = {{168, 31}, {169, 32}, {170, 31}, {171, 32}, {174, 63}, {175, 64}, {176, 63}, {177, 64}};
        for (int[] row : operators) {
            Rows r = new Rows(Facts.type(row[0]));
            APPLIED.traps(row[0], 2, r.power(row[1]));
            APPLIED.traps(row[0], 2, r.greatest);
            APPLIED.traps(row[0], 2, r.infinite);
            APPLIED.traps(row[0], 2, r.minus(r.greatest));
            APPLIED.traps(row[0], 2, r.minus(r.infinite));
            APPLIED.traps(row[0], 2, r.minus(r.power(row[1] + 1)));
            APPLIED.gives(row[0], 1L << (row[1] - 1), r.power(row[1] - 1));
            APPLIED.gives(row[0], 0, r.minus(r.one - 1));
            if (row[0] % 2 == 0) {
                APPLIED.gives(row[0], 1L << row[1], r.minus(r.power(row[1])));
                APPLIED.gives(row[0], -1, r.minus(r.one));
            } else {
                APPLIED.traps(row[0], 2, r.minus(r.one));
            }
        }
    }

    private static void ofANone() {
        CHECK.sentence(4, "TRAPS: .. 3 these of a NONE.");
        for (int operator : new int[] {168, 169, 170, 171, 174, 175, 176, 177}) {
            Rows r = new Rows(Facts.type(operator));
            for (long none : r.nones()) {
                APPLIED.traps(operator, 3, none);
            }
            APPLIED.traps(operator, 3, r.infinite + 1);
            APPLIED.traps(operator, 2, r.infinite);
            APPLIED.traps(operator, 2, r.infinite - 1);
            APPLIED.traps(operator, 3, r.minus(r.infinite + 1));
            APPLIED.traps(operator, 2, r.minus(r.infinite));
        }
    }

    /** ZERO, all bits, INFINITE and a NONE as both operands are no trap for all the rest. */
    private static void noOthers() {
        CHECK.sentence(4, "TRAPS: 1 .. 2 .. 3 .. (and no operator else is one)");
        for (int operator : Facts.operators()) {
            boolean isQuotient = operator >= 109 && operator <= 112 || operator >= 127 && operator <= 130;
            boolean isTowardsZero = operator >= 168 && operator <= 171 || operator >= 174 && operator <= 177;
            if (isQuotient || isTowardsZero) {
                continue;
            }
            long[] rows = {0, -1, Long.MIN_VALUE, 0x80000000L, 0x7F800000L, 0x7F800001L, 0x7FF0000000000000L,
                0x7FF0000000000001L, 0xFFF0000000000000L};
            for (long x : rows) {
                for (long y : rows) {
                    BitNumbers numbers = new BitNumbers();
                    numbers.push(Facts.type(operator), x);
                    if (Facts.operands(operator) == 2) {
                        numbers.push(Facts.type(operator), y);
                    }
                    String call = Outcome.call(operator, x, y);
                    CHECK.due(call, numbers.apply(operator), Facts.resultType(operator));
                    CHECK.due(call + ", trap()", numbers.trap(), 0);
                }
            }
        }
    }
}
