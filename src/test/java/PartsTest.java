/** Promise 9: the parts of floating values. */
final class PartsTest {
    private static final Check CHECK = new Check("PartsTest");
    private static final int ZERO = 0;
    private static final int SMALL = 1;
    private static final int OTHER = 2;
    private static final int INFINITE = 3;
    private static final int NONE = 4;

    public static void main(String[] args) {
        single();
        wide();
        others();
        CHECK.end();
    }

    private static void single() {
        bothSigns(2, 0x80000000L, 0, 0, ZERO);
        bothSigns(2, 0x80000000L, 1, 0, SMALL);
        bothSigns(2, 0x80000000L, 0x007FFFFFL, 0, SMALL);
        bothSigns(2, 0x80000000L, 0x00800000L, 1, OTHER);
        bothSigns(2, 0x80000000L, 0x3F800000L, 127, OTHER);
        bothSigns(2, 0x80000000L, 0x7F7FFFFFL, 254, OTHER);
        bothSigns(2, 0x80000000L, 0x7F800000L, 255, INFINITE);
        bothSigns(2, 0x80000000L, 0x7F800001L, 255, NONE);
        bothSigns(2, 0x80000000L, 0x7FC00000L, 255, NONE);
        bothSigns(2, 0x80000000L, 0x7FFFFFFFL, 255, NONE);
    }

    private static void wide() {
        bothSigns(3, Long.MIN_VALUE, 0, 0, ZERO);
        bothSigns(3, Long.MIN_VALUE, 1, 0, SMALL);
        bothSigns(3, Long.MIN_VALUE, 0x000FFFFFFFFFFFFFL, 0, SMALL);
        bothSigns(3, Long.MIN_VALUE, 0x0010000000000000L, 1, OTHER);
        bothSigns(3, Long.MIN_VALUE, 0x3FF0000000000000L, 1023, OTHER);
        bothSigns(3, Long.MIN_VALUE, 0x7FEFFFFFFFFFFFFFL, 2046, OTHER);
        bothSigns(3, Long.MIN_VALUE, 0x7FF0000000000000L, 2047, INFINITE);
        bothSigns(3, Long.MIN_VALUE, 0x7FF0000000000001L, 2047, NONE);
        bothSigns(3, Long.MIN_VALUE, 0x7FF8000000000000L, 2047, NONE);
        bothSigns(3, Long.MIN_VALUE, Long.MAX_VALUE, 2047, NONE);
    }

    private static void others() {
        BitNumbers numbers = new BitNumbers();
        numbers.push(2, 0xFF800000L);
        numbers.push(0, 0xFFFFFFFFL);
        numbers.push(1, -1);
        numbers.push(3, 1);
        int[] wrongWhat = {Integer.MIN_VALUE, -1, 3, Integer.MAX_VALUE};
        for (int what : wrongWhat) {
            for (int k = -1; k <= 4; k++) {
                CHECK.due("parts(" + k + ", " + what + ")", numbers.parts(k, what), -1);
            }
        }
        int[] notFloating = {Integer.MIN_VALUE, -1, 1, 2, 4, Integer.MAX_VALUE};
        for (int k : notFloating) {
            for (int what = 0; what <= 2; what++) {
                CHECK.due("parts(" + k + ", " + what + ")", numbers.parts(k, what), -1);
            }
        }
        CHECK.due("parts(3, 0)", numbers.parts(3, 0), 1);
        CHECK.due("parts(3, 1)", numbers.parts(3, 1), 255);
        CHECK.due("parts(3, 2)", numbers.parts(3, 2), INFINITE);
        CHECK.due("parts(0, 2)", numbers.parts(0, 2), SMALL);
        CHECK.due("clear()", numbers.clear(), 4);
    }

    private static void bothSigns(int type, long signBit, long magnitude, int exponent, int kind) {
        for (int sign = 0; sign <= 1; sign++) {
            BitNumbers numbers = new BitNumbers();
            numbers.push(type, sign == 1 ? magnitude | signBit : magnitude);
            String call = "parts() of " + Long.toHexString(numbers.bits(0));
            CHECK.due(call + ", sign", numbers.parts(0, 0), sign);
            CHECK.due(call + ", exponent", numbers.parts(0, 1), exponent);
            CHECK.due(call + ", kind", numbers.parts(0, 2), kind);
            CHECK.due(call + ", bits after that", numbers.bits(0), sign == 1 ? magnitude | signBit : magnitude);
        }
    }
}
