/** Promise 4, its own section: apply() on stacks of every length, what it throws, and that nothing is done then. */
final class Promise04ApplyTest {
    private static final Check CHECK = new Check("Promise04ApplyTest");

    public static void main(String[] args) {
        operandsFromTheTop();
        yIsTheUpperOne();
        noSuchOperator();
        operandsNotThere();
        typesNotThere();
        whatIsThrownFirst();
        trapsDoNothing();
        CHECK.end();
    }

    private static void operandsFromTheTop() {
        CHECK.sentence(4,
            "An operator takes its operands from the top .. and puts its result there: the type of that.");
        for (int operator : Facts.operators()) {
            int operands = Facts.operands(operator);
            for (int count : new int[] {operands, operands + 1, 63, 64}) {
                Held held = Held.with(CHECK, count - operands);
                for (int i = 0; i < operands; i++) {
                    held.push(Facts.type(operator), 1);
                }
                held.apply(operator, resultOfOnes(operator));
                held.holds("apply(" + operator + ")");
                held.clear();
            }
        }
    }

    private static long resultOfOnes(int operator) {
        return Machine.due(operator, Facts.type(operator), Facts.resultType(operator), 1, 1).bits();
    }

    private static void yIsTheUpperOne() {
        CHECK.sentence(4, "(y is the upper one)");
        Held held = new Held(CHECK);
        held.push(0, 100);
        held.push(0, 10);
        held.push(0, 3);
        held.apply(107, 7);
        held.holds("10 - 3");
        held.apply(109, 14);
        held.holds("100 / 7");
        long one = 0x3FF0000000000000L;
        long two = 0x4000000000000000L;
        Applied applied = new Applied(CHECK);
        applied.gives(72, 1, 1, 2);
        applied.gives(72, 0, 2, 1);
        applied.gives(99, 1, one, two);
        applied.gives(99, 0, two, one);
        applied.gives(116, 8, 1, 3);
        applied.gives(116, 6, 3, 1);
        applied.gives(125, -1, 1, 2);
        applied.gives(125, 1, 2, 1);
        applied.gives(129, 1, 10, 3);
        applied.gives(129, 3, 3, 10);
        applied.gives(161, Long.MIN_VALUE | one, one, two);
        applied.gives(161, one, two, one);
        applied.gives(163, one - (1L << 52), one, two);
        applied.gives(163, two, two, one);
        applied.gives(166, one, Long.MIN_VALUE | one, two);
        applied.gives(166, Long.MIN_VALUE | two, two, Long.MIN_VALUE | one);
    }

    private static void noSuchOperator() {
        CHECK.sentence(4, "IllegalArgumentException: there is no such operator .. Nothing is done then.");
        for (int count : Edges.COUNTS) {
            for (int operator : Facts.NO_OPERATORS) {
                Held held = Held.with(CHECK, count);
                held.applyThrows(operator, Held.NO_OPERATOR, 0);
                held.holds("apply(" + operator + ")");
                held.clear();
            }
        }
        for (int operator = -300; operator <= 600; operator++) {
            if (!Facts.exists(operator)) {
                for (int type = 0; type < 4; type++) {
                    Held held = new Held(CHECK);
                    held.push(type, 1);
                    held.push(type, 1);
                    held.applyThrows(operator, Held.NO_OPERATOR, 0);
                    held.holds("apply(" + operator + ")");
                }
            }
        }
    }

    private static void operandsNotThere() {
        CHECK.sentence(4, "IllegalStateException: its operands .. are not there .. Nothing is done then.");
        for (int operator : Facts.operators()) {
            Held held = new Held(CHECK);
            held.applyThrows(operator, Held.NOT_THERE, 0);
            held.holds("apply(" + operator + ") with none");
            if (Facts.operands(operator) == 2) {
                held.push(Facts.type(operator), -1);
                held.applyThrows(operator, Held.NOT_THERE, 0);
                held.holds("apply(" + operator + ") with one of two");
                held.clear();
            }
        }
    }

    /** Held.with() ends in type 1 for 62 values, in type 0 for 61: what is pushed on it is all that is on top. */
    private static void typesNotThere() {
        CHECK.sentence(4,
            "IllegalStateException: its operands, with their types, are not there .. Nothing is done then.");
        for (int operator : Facts.operators()) {
            int right = Facts.type(operator);
            for (int other = 0; other < 4; other++) {
                if (other == right) {
                    continue;
                }
                for (int below : new int[] {0, 1, 61, 62}) {
                    typesAre(operator, below, right, other);
                    typesAre(operator, below, other, other);
                    if (Facts.operands(operator) == 2) {
                        typesAre(operator, below, other, right);
                    }
                }
            }
        }
    }

    private static void typesAre(int operator, int below, int lower, int upper) {
        Held held = Held.with(CHECK, below);
        held.push(lower, 1);
        held.push(upper, 1);
        held.applyThrows(operator, Held.NOT_THERE, 0);
        held.holds("apply(" + operator + ") on types " + lower + ", " + upper);
        held.clear();
    }

    private static void whatIsThrownFirst() {
        CHECK.sentence(4, "IllegalStateException .. UnsupportedOperationException (no trap without the operands)");
        for (int operator = 109; operator <= 112; operator++) {
            for (int type = 1; type < 4; type++) {
                Held held = new Held(CHECK);
                held.push(type, 1);
                held.push(0, 0);
                held.applyThrows(operator, Held.NOT_THERE, 0);
                held.holds("a quotient of another type by 0");
            }
            Held held = new Held(CHECK);
            held.push(0, 0);
            held.applyThrows(operator, Held.NOT_THERE, 0);
            held.holds("a quotient of nothing by 0");
        }
        Held held = new Held(CHECK);
        held.push(2, 0x7FC00000L);
        held.applyThrows(170, Held.NOT_THERE, 0);
        held.push(3, 0x7FF8000000000000L);
        held.applyThrows(168, Held.NOT_THERE, 0);
        held.holds("a NONE of the other type");
    }

    private static void trapsDoNothing() {
        CHECK.sentence(4, "UnsupportedOperationException: a TRAP (which is told by trap()). Nothing is done then.");
        for (int below : new int[] {0, 1, 61, 62}) {
            for (int operator : new int[] {109, 110, 111, 112, 127, 128, 129, 130}) {
                trap(1, operator, below, 5, 0);
            }
            trap(2, 109, below, 0x80000000L, -1);
            trap(2, 127, below, Long.MIN_VALUE, -1);
            for (int operator : new int[] {168, 169, 174, 175}) {
                trap(2, operator, below + 1, 0x7F800000L);
                trap(3, operator, below + 1, 0xFF800001L);
            }
            for (int operator : new int[] {170, 171, 176, 177}) {
                trap(2, operator, below + 1, 0xFFF0000000000000L);
                trap(3, operator, below + 1, 0x7FF0000000000001L);
            }
        }
    }

    /** Twice, for after the first trap the operands must still be there. */
    private static void trap(int trap, int operator, int below, long... operands) {
        Held held = Held.with(CHECK, below);
        for (long operand : operands) {
            held.push(Facts.type(operator), operand);
        }
        held.applyThrows(operator, Held.TRAP, trap);
        held.holds("apply(" + operator + ")");
        held.applyThrows(operator, Held.TRAP, trap);
        held.holds("apply(" + operator + ") again");
        held.clear();
    }
}
