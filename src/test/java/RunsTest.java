import java.util.ArrayList;
import java.util.List;
import java.util.Random;

/** Promises 1 to 11 together: long runs of calls, right and wrong ones, against a plain stack. */
final class RunsTest {
    private static final Check CHECK = new Check("RunsTest");
    private static final int RUNS = 2_000;
    /** As many as an object is used for; one step of a run makes five at most. */
    private static final int CALLS = 512;
    private static final int CALLS_OF_A_STEP = 5;
    private static final long[] ROWS = {
        0, 1, 2, 7, -1, -2, 0x80000000L, 0x7FFFFFFFL, 0xFFFFFFFFL, Long.MIN_VALUE, Long.MAX_VALUE,
        0x3F800000L, 0xC0200000L, 0x7F800000L, 0xFF800000L, 0x7F800001L, 0x7F7FFFFFL, 0x4F000000L,
        0x3FF0000000000000L, 0xC004000000000000L, 0x7FF0000000000000L, 0xFFF0000000000000L,
        0x7FF0000000000001L, 0x7FEFFFFFFFFFFFFFL, 0x43E0000000000000L};

    private record Value(int type, long bits) {
    }

    private final Random random;
    private final BitNumbers numbers = new BitNumbers();
    private final List<Value> values = new ArrayList<>();
    private int trap = 0;
    private int calls = 0;

    private RunsTest(int run) {
        random = new Random(run);
    }

    public static void main(String[] args) {
        for (int run = 0; run < RUNS; run++) {
            RunsTest test = new RunsTest(run);
            while (test.calls + CALLS_OF_A_STEP <= CALLS) {
                test.step(run % 3 == 0);
            }
            while (test.calls < CALLS) {
                test.pushes();
            }
        }
        CHECK.end();
    }

    private void step(boolean mostlyPushes) {
        int pick = random.nextInt(mostlyPushes ? 40 : 20);
        if (pick < 8) {
            applies();
        } else if (pick == 8) {
            pops();
        } else if (pick == 9) {
            due("trap()", numbers.trap(), trap);
        } else if (pick < 12) {
            looks();
        } else if (pick < 14) {
            copies();
        } else if (pick == 14 && random.nextInt(20) == 0) {
            due("clear()", numbers.clear(), values.size());
            values.clear();
        } else {
            pushes();
        }
    }

    private void due(String call, Object got, Object want) {
        calls++;
        CHECK.due(call + " as call " + calls, String.valueOf(got), String.valueOf(want));
    }

    private void pushes() {
        int type = random.nextInt(30) == 0 ? random.nextInt() : random.nextInt(4);
        long bits = random.nextBoolean() ? ROWS[random.nextInt(ROWS.length)] : random.nextLong();
        boolean works = type >= 0 && type < 4 && values.size() < 64;
        if (works) {
            values.add(new Value(type, Outcome.cut(type, bits)));
        }
        due("push(" + type + ", " + bits + ")", numbers.push(type, bits), works ? values.size() : -1);
    }

    private void pops() {
        String due = values.isEmpty() ? "IllegalStateException" : "" + values.remove(values.size() - 1).bits;
        String got;
        try {
            got = "" + numbers.pop();
        } catch (RuntimeException e) {
            got = e.getClass().getSimpleName();
        }
        due("pop()", got, due);
    }

    private void applies() {
        int operator = operatorToTry();
        String got;
        try {
            got = "" + numbers.apply(operator);
        } catch (RuntimeException e) {
            got = e.getClass().getSimpleName();
        }
        due("apply(" + operator + ")", got, dueOf(operator));
        due("trap() after apply(" + operator + ")", numbers.trap(), trap);
        Value top = value(0);
        due("type(0) after apply(" + operator + ")", numbers.type(0), top == null ? -1 : top.type);
        due("bits(0) after apply(" + operator + ")", numbers.bits(0), top == null ? 0 : top.bits);
        due("operator(" + operator + ", 0)", numbers.operator(operator, 0),
            Facts.exists(operator) ? Facts.operands(operator) : -1);
    }

    /** Most often an operator whose operands are there, for few are when the operator is any. */
    private int operatorToTry() {
        int operator = 60 + random.nextInt(155);
        for (int i = 0; i < 30 && !values.isEmpty() && !areThere(operator); i++) {
            operator = 60 + random.nextInt(155);
        }
        return operator;
    }

    private boolean areThere(int operator) {
        if (!Facts.exists(operator)) {
            return false;
        }
        int operands = Facts.operands(operator);
        int type = Facts.type(operator);
        for (int k = 0; k < operands; k++) {
            if (value(k) == null || value(k).type != type) {
                return false;
            }
        }
        return true;
    }

    private String dueOf(int operator) {
        trap = 0;
        if (!Facts.exists(operator)) {
            return "IllegalArgumentException";
        }
        if (!areThere(operator)) {
            return "IllegalStateException";
        }
        int operands = Facts.operands(operator);
        Value x = value(operands - 1);
        Outcome due = Machine.due(operator, x.type, Facts.resultType(operator), x.bits, value(0).bits);
        trap = due.trap();
        if (trap == 0) {
            for (int i = 0; i < operands; i++) {
                values.remove(values.size() - 1);
            }
            values.add(new Value(due.type(), due.bits()));
            return "" + due.type();
        }
        return due.thrown();
    }

    private void looks() {
        int k = place();
        int what = random.nextInt(5) - 1;
        Value value = value(k);
        due("type(" + k + ")", numbers.type(k), value == null ? -1 : value.type);
        due("bits(" + k + ")", numbers.bits(k), value == null ? 0 : value.bits);
        due("parts(" + k + ", " + what + ")", numbers.parts(k, what), part(value, what));
    }

    private static int part(Value value, int what) {
        if (value == null || value.type < 2 || what < 0 || what > 2) {
            return -1;
        }
        int fractionBits = value.type == 2 ? 23 : 52;
        int all = value.type == 2 ? 255 : 2047;
        int exponent = (int) (value.bits >> fractionBits) & all;
        long fraction = value.bits & (1L << fractionBits) - 1;
        if (what == 0) {
            return (int) (value.bits >>> (value.type == 2 ? 31 : 63));
        }
        if (what == 1) {
            return exponent;
        }
        if (exponent == all) {
            return fraction == 0 ? 3 : 4;
        }
        return exponent > 0 ? 2 : fraction == 0 ? 0 : 1;
    }

    private void copies() {
        int k = place();
        Value value = value(k);
        boolean works = value != null && values.size() < 64;
        if (works) {
            values.add(value);
        }
        due("copy(" + k + ")", numbers.copy(k), works ? values.size() : -1);
    }

    private int place() {
        return random.nextInt(20) == 0 ? random.nextInt() : random.nextInt(values.size() + 2) - 1;
    }

    private Value value(int k) {
        return k >= 0 && k < values.size() ? values.get(values.size() - 1 - k) : null;
    }
}
