/** Applies single operators, each on a new object, and holds what they come to against what is due. */
final class Applied {
    private final Check check;

    Applied(Check check) {
        this.check = check;
    }

    /** The bits that are due are cut to the result's type here, so that -1 may be written for either. */
    void gives(int operator, long bits, long... operands) {
        int type = Facts.resultType(operator);
        Outcome due = Outcome.result(type, Outcome.cut(type, bits));
        check.due(Outcome.call(operator, operands), Outcome.of(check, operator, operands), due);
    }

    void traps(int operator, int trap, long... operands) {
        int type = Facts.type(operator);
        Outcome due = Outcome.trapped(trap, type, Outcome.cut(type, operands[operands.length - 1]));
        check.due(Outcome.call(operator, operands), Outcome.of(check, operator, operands), due);
    }
}
