/** Promises 4 and 5: the exceptions of apply(), in their order, that nothing is done then, and trap(). */
final class ApplyTest {
    private static final Check CHECK = new Check("ApplyTest");
    private static final String NO_OPERATOR = "IllegalArgumentException";
    private static final String NO_OPERANDS = "IllegalStateException";
    private static final String TRAP = "UnsupportedOperationException";

    public static void main(String[] args) {
        operatorsThatAreNot();
        operandsThatAreNot();
        wrongTypes();
        orderOfOperands();
        trapsAreTold();
        CHECK.end();
    }

    private static void operatorsThatAreNot() {
        int[] wrong = {Integer.MIN_VALUE, -1, 0, 1, 68, 197, 198, 199, 208, 255, 69 + 256, Integer.MAX_VALUE};
        for (int operator : wrong) {
            BitNumbers numbers = new BitNumbers();
            CHECK.due("apply(" + operator + ") with none", Trapping.thrown(numbers, operator), NO_OPERATOR);
            for (int type = 0; type < 4; type++) {
                numbers.push(type, 1);
                numbers.push(type, 1);
                CHECK.due("apply(" + operator + ")", Trapping.thrown(numbers, operator), NO_OPERATOR);
            }
            CHECK.due("clear()", numbers.clear(), 8);
        }
    }

    private static void operandsThatAreNot() {
        for (int operator = 69; operator <= 207; operator++) {
            if (operator > 196 && operator < 200) {
                continue;
            }
            BitNumbers numbers = new BitNumbers();
            int operands = numbers.operator(operator, 0);
            int type = numbers.operator(operator, 1);
            CHECK.due("apply(" + operator + ") with none", Trapping.thrown(numbers, operator), NO_OPERANDS);
            numbers.push(type, 1);
            String due = operands == 2 ? NO_OPERANDS : Trapping.NOTHING;
            CHECK.due("apply(" + operator + ") with one", Trapping.thrown(numbers, operator), due);
            CHECK.due("clear()", numbers.clear(), 1);
        }
    }

    private static void wrongTypes() {
        for (int operator = 69; operator <= 207; operator++) {
            BitNumbers numbers = new BitNumbers();
            int operands = numbers.operator(operator, 0);
            if (operands < 1) {
                continue;
            }
            int right = numbers.operator(operator, 1);
            for (int type = 0; type < 4; type++) {
                numbers.push(type, 1);
                numbers.push(right, 1);
                String below = operands == 2 && type != right ? NO_OPERANDS : Trapping.NOTHING;
                String call = "apply(" + operator + ") on ";
                CHECK.due(call + type + ", " + right, Trapping.thrown(numbers, operator), below);
                numbers.clear();
                numbers.push(right, 1);
                numbers.push(type, 1);
                String above = type != right ? NO_OPERANDS : Trapping.NOTHING;
                CHECK.due(call + right + ", " + type, Trapping.thrown(numbers, operator), above);
                if (type != right) {
                    CHECK.due("type(0) then", numbers.type(0), type);
                    CHECK.due("bits(1) then", numbers.bits(1), 1);
                    CHECK.due("type(1) then", numbers.type(1), right);
                }
                numbers.clear();
            }
        }
    }

    private static void orderOfOperands() {
        BitNumbers numbers = new BitNumbers();
        numbers.push(0, 100);
        numbers.push(0, 10);
        numbers.push(0, 3);
        CHECK.due("apply(107)", numbers.apply(107), 0);
        CHECK.due("10 - 3", numbers.bits(0), 7);
        CHECK.due("apply(107)", numbers.apply(107), 0);
        CHECK.due("100 - 7", numbers.bits(0), 93);
        CHECK.due("clear()", numbers.clear(), 1);
    }

    private static void trapsAreTold() {
        BitNumbers numbers = new BitNumbers();
        CHECK.due("trap() before apply()", numbers.trap(), 0);
        numbers.push(0, 5);
        numbers.push(0, 0);
        CHECK.due("5 / 0", Trapping.thrown(numbers, 109), TRAP);
        CHECK.due("trap()", numbers.trap(), 1);
        CHECK.due("trap() again", numbers.trap(), 1);
        numbers.push(2, 0x7F800001L);
        numbers.copy(0);
        numbers.pop();
        numbers.operator(69, 0);
        CHECK.due("trap() after other calls", numbers.trap(), 1);
        CHECK.due("NONE to whole", Trapping.thrown(numbers, 168), TRAP);
        CHECK.due("trap()", numbers.trap(), 3);
        CHECK.due("bits(0) then", numbers.bits(0), 0x7F800001L);
        CHECK.due("an operator that is not", Trapping.thrown(numbers, 199), NO_OPERATOR);
        CHECK.due("trap(): that was none", numbers.trap(), 0);
        numbers.push(3, 0x7FF0000000000000L);
        CHECK.due("INFINITE to whole", Trapping.thrown(numbers, 177), TRAP);
        CHECK.due("trap()", numbers.trap(), 2);
        CHECK.due("operands that are not", Trapping.thrown(numbers, 106), NO_OPERANDS);
        CHECK.due("trap(): that was none", numbers.trap(), 0);
        CHECK.due("INFINITE to whole", Trapping.thrown(numbers, 177), TRAP);
        CHECK.due("INFINITE to the greatest", numbers.apply(207), 1);
        CHECK.due("trap() after a result", numbers.trap(), 0);
        CHECK.due("bits(0)", numbers.bits(0), -1);
        CHECK.due("clear()", numbers.clear(), 4);
    }
}
