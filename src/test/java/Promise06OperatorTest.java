/** Promise 6: operator. */
final class Promise06OperatorTest {
    private static final Check CHECK = new Check("Promise06OperatorTest");

    public static void main(String[] args) {
        ofAnOperator();
        noSuchOperator();
        whatIsNot();
        bothOperandsHaveTheSameType();
        nothingIsChanged();
        CHECK.end();
    }

    private static void ofAnOperator() {
        CHECK.sentence(6, "Of an operator: 0 how many operands it has, 1 their type, 2 its result's type");
        for (int operator : Facts.operators()) {
            Held held = new Held(CHECK);
            held.due("operator(" + operator + ", 0)", n -> n.operator(operator, 0), Facts.operands(operator));
            held.due("operator(" + operator + ", 1)", n -> n.operator(operator, 1), Facts.type(operator));
            held.due("operator(" + operator + ", 2)", n -> n.operator(operator, 2), Facts.resultType(operator));
        }
        CHECK.due("operators there are", Facts.operators().size(), 196 - 69 + 1 + 8);
    }

    private static void noSuchOperator() {
        CHECK.sentence(6, "-1 when there is no such operator");
        for (int operator : Facts.NO_OPERATORS) {
            Held held = new Held(CHECK);
            for (int what = -1; what <= 3; what++) {
                int asked = what;
                held.due("operator(" + operator + ", " + asked + ")", n -> n.operator(operator, asked), -1);
            }
        }
        for (int operator = -300; operator <= 600; operator++) {
            int asked = operator;
            if (!Facts.exists(asked)) {
                new Held(CHECK).due("operator(" + asked + ", 0)", n -> n.operator(asked, 0), -1);
            }
        }
    }

    private static void whatIsNot() {
        CHECK.sentence(6, "-1 when .. what is not 0 .. 2.");
        for (int operator : Facts.operators()) {
            Held held = new Held(CHECK);
            for (int what : Edges.NO_WHATS) {
                held.due("operator(" + operator + ", " + what + ")", n -> n.operator(operator, what), -1);
            }
        }
        for (int operator : Facts.NO_OPERATORS) {
            Held held = new Held(CHECK);
            for (int what : Edges.NO_WHATS) {
                held.due("operator(" + operator + ", " + what + ")", n -> n.operator(operator, what), -1);
            }
        }
    }

    /** And apply() takes so many operands of that type, and gives a result of the other, as is told. */
    private static void bothOperandsHaveTheSameType() {
        CHECK.sentence(6, "(Both operands of an operator have the same type.)");
        for (int operator : Facts.operators()) {
            BitNumbers numbers = new BitNumbers();
            int type = numbers.operator(operator, 1);
            numbers.push(type, 1);
            numbers.push(type, 1);
            int resultType = numbers.apply(operator);
            CHECK.due("apply(" + operator + ") on two of type " + type, resultType, Facts.resultType(operator));
            CHECK.due("type(0) after apply(" + operator + ")", numbers.type(0), numbers.operator(operator, 2));
            CHECK.due("clear() after apply(" + operator + ")", numbers.clear(), 3 - numbers.operator(operator, 0));
        }
    }

    private static void nothingIsChanged() {
        CHECK.sentence(6, "Of an operator (.. whatever the stack holds, which stays)");
        for (int count : Edges.COUNTS) {
            Held held = Held.with(CHECK, count);
            held.due("operator(207, 0)", n -> n.operator(207, 0), 1);
            held.due("operator(138, 1)", n -> n.operator(138, 1), 1);
            held.due("operator(69, 2)", n -> n.operator(69, 2), 0);
            held.due("operator(208, 2)", n -> n.operator(208, 2), -1);
            held.due("operator(69, -1)", n -> n.operator(69, -1), -1);
            held.holds("operator()");
        }
    }
}
