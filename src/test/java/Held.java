import java.util.ArrayList;
import java.util.List;
import java.util.function.ToLongFunction;

/** An object under test, and beside it the values that it must hold; its calls are counted, for 512 are promised. */
final class Held {
    static final String NO_OPERATOR = "throws.IllegalArgumentException";
    static final String NOT_THERE = "throws.IllegalStateException";
    static final String TRAP = "throws.UnsupportedOperationException";
    private static final int PROMISED_CALLS = 512;

    private record Value(int type, long bits) {
    }

    private final Check check;
    private final BitNumbers numbers = new BitNumbers();
    private final List<Value> values = new ArrayList<>();
    private int trap = 0;
    private int calls = 0;

    Held(Check check) {
        this.check = check;
    }

    /** With so many values, of all types in turn from 0 on, no two with the same bits. */
    static Held with(Check check, int count) {
        Held held = new Held(check);
        for (int i = 0; i < count; i++) {
            held.push(i % 4, 0x9E3779B97F4A7C15L * (i + 1));
        }
        return held;
    }

    int count() {
        return values.size();
    }

    int calls() {
        return calls;
    }

    /** Of the k-th value from the top; it must be there. */
    int type(int k) {
        return values.get(values.size() - 1 - k).type;
    }

    long bits(int k) {
        return values.get(values.size() - 1 - k).bits;
    }

    /** A call with the answer that is due: a number, or one of the names above. */
    void due(String call, ToLongFunction<BitNumbers> made, Object want) {
        calls++;
        if (calls > PROMISED_CALLS) {
            throw new IllegalStateException("a fault of the test: more calls than an object is used for");
        }
        String got;
        try {
            got = String.valueOf(made.applyAsLong(numbers));
        } catch (RuntimeException e) {
            got = "throws." + e.getClass().getSimpleName();
        }
        check.due(call + ", " + values.size() + " values being there,", got, String.valueOf(want));
    }

    /** A push that has to work. */
    void push(int type, long bits) {
        due("push(" + type + ", " + bits + ")", n -> n.push(type, bits), values.size() + 1);
        put(type, bits);
    }

    /** A pop that has to work. */
    void pop() {
        due("pop()", BitNumbers::pop, bits(0));
        take(1);
    }

    /** A copy that has to work. */
    void copy(int k) {
        due("copy(" + k + ")", n -> n.copy(k), values.size() + 1);
        put(type(k), bits(k));
    }

    void clear() {
        due("clear()", BitNumbers::clear, values.size());
        values.clear();
    }

    /** An apply that has to work and to give these bits. */
    void apply(int operator, long bits) {
        due("apply(" + operator + ")", n -> n.apply(operator), Facts.resultType(operator));
        take(Facts.operands(operator));
        put(Facts.resultType(operator), bits);
        trap = 0;
    }

    /** An apply that has to throw; the trap is 0 for an exception that is none. */
    void applyThrows(int operator, String thrown, int newTrap) {
        due("apply(" + operator + ")", n -> n.apply(operator), thrown);
        trap = newTrap;
    }

    void trapIsTold(String after) {
        due("trap() after " + after, BitNumbers::trap, trap);
    }

    /** Every value is there with its type and bits, there is none above or below them, and the trap is told. */
    void holds(String after) {
        for (int i = -1; i <= values.size(); i++) {
            int k = i;
            boolean isThere = k >= 0 && k < values.size();
            due("type(" + k + ") after " + after, n -> n.type(k), isThere ? type(k) : -1);
            due("bits(" + k + ") after " + after, n -> n.bits(k), isThere ? bits(k) : 0);
        }
        trapIsTold(after);
    }

    private void put(int type, long bits) {
        values.add(new Value(type, Outcome.cut(type, bits)));
    }

    private void take(int count) {
        for (int i = 0; i < count; i++) {
            values.remove(values.size() - 1);
        }
    }
}
