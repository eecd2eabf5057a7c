/** What one apply() came to: an exception's name or none, the trap, and the type and bits then on top. */
record Outcome(String thrown, int trap, int type, long bits) {
    private static final String NOTHING = "nothing";

    static Outcome result(int type, long bits) {
        return new Outcome(NOTHING, 0, type, bits);
    }

    static Outcome trapped(int trap, int type, long bits) {
        return new Outcome(UnsupportedOperationException.class.getSimpleName(), trap, type, bits);
    }

    /** Applies the operator to operands of its own type, and looks whether the rest of the stack stays. */
    static Outcome of(Check check, int operator, long... operands) {
        BitNumbers numbers = new BitNumbers();
        int type = Facts.type(operator);
        int below = (type + 1) % 4;
        numbers.push(below, 77);
        for (long operand : operands) {
            numbers.push(type, operand);
        }
        String thrown = NOTHING;
        int answer = -1;
        try {
            answer = numbers.apply(operator);
        } catch (RuntimeException e) {
            thrown = e.getClass().getSimpleName();
        }
        Outcome outcome = new Outcome(thrown, numbers.trap(), numbers.type(0), numbers.bits(0));
        String call = call(operator, operands);
        boolean worked = thrown.equals(NOTHING);
        if (worked) {
            check.due(call, answer, outcome.type);
        }
        int left = worked ? 1 : operands.length;
        check.due(call + ", then type() below", numbers.type(left), below);
        check.due(call + ", then bits() below", numbers.bits(left), 77);
        for (int k = 0; !worked && k < operands.length; k++) {
            long wide = operands[operands.length - 1 - k];
            check.due(call + ", thrown, then bits(" + k + ")", numbers.bits(k), cut(type, wide));
            check.due(call + ", thrown, then type(" + k + ")", numbers.type(k), type);
        }
        check.due(call + ", then clear()", numbers.clear(), left + 1);
        return outcome;
    }

    static String call(int operator, long... operands) {
        StringBuilder text = new StringBuilder("apply(" + operator + ") on");
        for (long operand : operands) {
            text.append(" 0x").append(Long.toHexString(operand));
        }
        return text.toString();
    }

    static long cut(int type, long bits) {
        return type % 2 == 0 ? bits & 0xFFFFFFFFL : bits;
    }

    @Override
    public String toString() {
        return "throws " + thrown + ", trap " + trap + ", type " + type + ", bits 0x" + Long.toHexString(bits);
    }
}
