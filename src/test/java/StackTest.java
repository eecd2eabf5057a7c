/** Promises 1, 2, 3, 7, 8, 10 and 11: the stack. */
final class StackTest {
    private static final Check CHECK = new Check("StackTest");

    public static void main(String[] args) {
        newObject();
        pushes();
        pushesToTheLimit();
        pops();
        looksAtTypesAndBits();
        copies();
        clears();
        CHECK.end();
    }

    private static void newObject() {
        BitNumbers numbers = new BitNumbers();
        CHECK.due("trap() of a new object", numbers.trap(), 0);
        CHECK.due("type(0) of a new object", numbers.type(0), -1);
        CHECK.due("bits(0) of a new object", numbers.bits(0), 0);
        CHECK.due("parts(0, 0) of a new object", numbers.parts(0, 0), -1);
        CHECK.due("copy(0) of a new object", numbers.copy(0), -1);
        CHECK.due("clear() of a new object", numbers.clear(), 0);
        CHECK.due("pop() of a new object", popped(numbers), "IllegalStateException");
        BitNumbers other = new BitNumbers();
        numbers.push(0, 1);
        CHECK.due("clear() of another object", other.clear(), 0);
    }

    private static void pushes() {
        BitNumbers numbers = new BitNumbers();
        long wide = 0xFEDCBA9887654321L;
        for (int type = 0; type < 4; type++) {
            CHECK.due("push(" + type + ", wide)", numbers.push(type, wide), type + 1);
            CHECK.due("type(0)", numbers.type(0), type);
            CHECK.due("bits(0)", numbers.bits(0), type % 2 == 0 ? 0x87654321L : wide);
        }
        int[] wrong = {-1, 4, 5, 100, Integer.MIN_VALUE, Integer.MAX_VALUE};
        for (int type : wrong) {
            CHECK.due("push(" + type + ", 1)", numbers.push(type, 1), -1);
        }
        CHECK.due("type(0) after wrong pushes", numbers.type(0), 3);
        CHECK.due("clear() after wrong pushes", numbers.clear(), 4);
    }

    private static void pushesToTheLimit() {
        BitNumbers numbers = new BitNumbers();
        for (int i = 1; i <= 64; i++) {
            CHECK.due("push number " + i, numbers.push(i % 4, i), i);
        }
        CHECK.due("push number 65", numbers.push(1, 9), -1);
        CHECK.due("copy(0) of a full stack", numbers.copy(0), -1);
        CHECK.due("copy(64) of a full stack", numbers.copy(64), -1);
        for (int k = 0; k < 64; k++) {
            CHECK.due("bits(" + k + ")", numbers.bits(k), 64 - k);
            CHECK.due("type(" + k + ")", numbers.type(k), (64 - k) % 4);
        }
        CHECK.due("type(64)", numbers.type(64), -1);
        CHECK.due("apply(69) on a full stack", numbers.apply(69), 0);
        CHECK.due("bits(0) then", numbers.bits(0), 0);
        CHECK.due("push on the full stack then", numbers.push(0, 3), -1);
        CHECK.due("pop() then", popped(numbers), "0");
        CHECK.due("push then", numbers.push(2, 5), 64);
        CHECK.due("clear() of a full stack", numbers.clear(), 64);
        CHECK.due("push after clear()", numbers.push(2, 5), 1);
    }

    private static void pops() {
        BitNumbers numbers = new BitNumbers();
        numbers.push(0, -1);
        numbers.push(1, -1);
        numbers.push(2, 0x180000000L);
        numbers.push(3, Long.MIN_VALUE);
        CHECK.due("pop()", popped(numbers), String.valueOf(Long.MIN_VALUE));
        CHECK.due("pop()", popped(numbers), String.valueOf(0x80000000L));
        CHECK.due("pop()", popped(numbers), "-1");
        CHECK.due("type(0)", numbers.type(0), 0);
        CHECK.due("pop()", popped(numbers), String.valueOf(0xFFFFFFFFL));
        CHECK.due("pop() with none", popped(numbers), "IllegalStateException");
        CHECK.due("pop() with none again", popped(numbers), "IllegalStateException");
        CHECK.due("push after that", numbers.push(1, 4), 1);
    }

    private static void looksAtTypesAndBits() {
        BitNumbers numbers = new BitNumbers();
        numbers.push(3, 30);
        numbers.push(0, 10);
        int[] none = {-1, 2, 63, 64, Integer.MIN_VALUE, Integer.MAX_VALUE};
        for (int k : none) {
            CHECK.due("type(" + k + ")", numbers.type(k), -1);
            CHECK.due("bits(" + k + ")", numbers.bits(k), 0);
            CHECK.due("copy(" + k + ")", numbers.copy(k), -1);
        }
        CHECK.due("type(1)", numbers.type(1), 3);
        CHECK.due("bits(1)", numbers.bits(1), 30);
        CHECK.due("type(0)", numbers.type(0), 0);
        CHECK.due("bits(0)", numbers.bits(0), 10);
        numbers.pop();
        CHECK.due("type(1) of a value that is gone", numbers.type(1), -1);
        CHECK.due("bits(1) of a value that is gone", numbers.bits(1), 0);
    }

    private static void copies() {
        BitNumbers numbers = new BitNumbers();
        numbers.push(3, -5);
        numbers.push(2, 6);
        CHECK.due("copy(1)", numbers.copy(1), 3);
        CHECK.due("type(0)", numbers.type(0), 3);
        CHECK.due("bits(0)", numbers.bits(0), -5);
        CHECK.due("copy(1)", numbers.copy(1), 4);
        CHECK.due("type(0)", numbers.type(0), 2);
        CHECK.due("bits(0)", numbers.bits(0), 6);
        CHECK.due("bits(2)", numbers.bits(2), 6);
        CHECK.due("bits(3)", numbers.bits(3), -5);
        CHECK.due("copy(4)", numbers.copy(4), -1);
        CHECK.due("clear()", numbers.clear(), 4);
    }

    private static void clears() {
        BitNumbers numbers = new BitNumbers();
        numbers.push(1, 1);
        numbers.push(1, 0);
        CHECK.due("apply(127)", Trapping.thrown(numbers, 127), "UnsupportedOperationException");
        CHECK.due("clear()", numbers.clear(), 2);
        CHECK.due("clear() again", numbers.clear(), 0);
        CHECK.due("trap() after clear()", numbers.trap(), 1);
        CHECK.due("type(0) after clear()", numbers.type(0), -1);
        CHECK.due("bits(0) after clear()", numbers.bits(0), 0);
        CHECK.due("pop() after clear()", popped(numbers), "IllegalStateException");
    }

    private static String popped(BitNumbers numbers) {
        try {
            return String.valueOf(numbers.pop());
        } catch (RuntimeException e) {
            return e.getClass().getSimpleName();
        }
    }
}
