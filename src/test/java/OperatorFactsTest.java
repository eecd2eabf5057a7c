/** Promise 6: what operator() tells of each operator, written out here from the document. */
final class OperatorFactsTest {
    private static final Check CHECK = new Check("OperatorFactsTest");

    public static void main(String[] args) {
        tests();
        arithmetic();
        conversions();
        wrongOnes();
        CHECK.end();
    }

    private static void tests() {
        facts(69, 69, 1, 0, 0);
        facts(70, 79, 2, 0, 0);
        facts(80, 80, 1, 1, 0);
        facts(81, 90, 2, 1, 0);
        facts(91, 96, 2, 2, 0);
        facts(97, 102, 2, 3, 0);
    }

    private static void arithmetic() {
        facts(103, 105, 1, 0, 0);
        facts(106, 120, 2, 0, 0);
        facts(121, 123, 1, 1, 1);
        facts(124, 138, 2, 1, 1);
        facts(139, 145, 1, 2, 2);
        facts(146, 152, 2, 2, 2);
        facts(153, 159, 1, 3, 3);
        facts(160, 166, 2, 3, 3);
    }

    private static void conversions() {
        facts(167, 167, 1, 1, 0);
        facts(168, 169, 1, 2, 0);
        facts(170, 171, 1, 3, 0);
        facts(172, 173, 1, 0, 1);
        facts(174, 175, 1, 2, 1);
        facts(176, 177, 1, 3, 1);
        facts(178, 179, 1, 0, 2);
        facts(180, 181, 1, 1, 2);
        facts(182, 182, 1, 3, 2);
        facts(183, 184, 1, 0, 3);
        facts(185, 186, 1, 1, 3);
        facts(187, 187, 1, 2, 3);
        facts(188, 188, 1, 2, 0);
        facts(189, 189, 1, 3, 1);
        facts(190, 190, 1, 0, 2);
        facts(191, 191, 1, 1, 3);
        facts(192, 193, 1, 0, 0);
        facts(194, 196, 1, 1, 1);
        facts(200, 201, 1, 2, 0);
        facts(202, 203, 1, 3, 0);
        facts(204, 205, 1, 2, 1);
        facts(206, 207, 1, 3, 1);
    }

    private static void wrongOnes() {
        BitNumbers numbers = new BitNumbers();
        int[] wrong = {Integer.MIN_VALUE, -1, 0, 68, 197, 198, 199, 208, 209, 1000, Integer.MAX_VALUE};
        for (int operator : wrong) {
            for (int what = -1; what <= 3; what++) {
                CHECK.due("operator(" + operator + ", " + what + ")", numbers.operator(operator, what), -1);
            }
        }
        int[] wrongWhat = {Integer.MIN_VALUE, -1, 3, 4, Integer.MAX_VALUE};
        for (int operator = 69; operator <= 207; operator++) {
            for (int what : wrongWhat) {
                CHECK.due("operator(" + operator + ", " + what + ")", numbers.operator(operator, what), -1);
            }
        }
    }

    private static void facts(int first, int last, int operands, int type, int resultType) {
        BitNumbers numbers = new BitNumbers();
        for (int operator = first; operator <= last; operator++) {
            CHECK.due("operator(" + operator + ", 0)", numbers.operator(operator, 0), operands);
            CHECK.due("operator(" + operator + ", 1)", numbers.operator(operator, 1), type);
            CHECK.due("operator(" + operator + ", 2)", numbers.operator(operator, 2), resultType);
            numbers.push(type, 1);
            numbers.push(type, 1);
            CHECK.due("apply(" + operator + ")", numbers.apply(operator), resultType);
            CHECK.due("type(0) after apply(" + operator + ")", numbers.type(0), resultType);
            CHECK.due("clear() after apply(" + operator + ")", numbers.clear(), 3 - operands);
        }
    }
}
