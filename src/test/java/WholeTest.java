/** Promise 4: the operators on whole numbers, with answers written out. */
final class WholeTest {
    private static final Check CHECK = new Check("WholeTest");
    private static final Applied APPLIED = new Applied(CHECK);
    private static final long LEAST_32 = 0x80000000L;
    private static final long MINUS_ONE_32 = 0xFFFFFFFFL;
    private static final long LEAST_64 = Long.MIN_VALUE;

    public static void main(String[] args) {
        tests();
        counts();
        sums();
        quotients();
        remainders();
        withHighestBit(110, 112, LEAST_32, MINUS_ONE_32);
        withHighestBit(128, 130, LEAST_64, -1);
        withoutSignOf64();
        rowsOfBits();
        shifts();
        turns();
        traps();
        operandsAreCut();
        CHECK.end();
    }

    private static void tests() {
        testsOfOneType(69, LEAST_32, MINUS_ONE_32);
        testsOfOneType(80, LEAST_64, -1);
        same(80, 0, 0x100000000L);
        same(81, 0, 0x100000000L, 0);
        same(83, 1, LEAST_64, 0x80000000L);
    }

    /** The ten answers stand in the operators' order: =, not =, then each order with and without sign. */
    private static void testsOfOneType(int start, long least, long minusOne) {
        same(start, 1, 0);
        same(start, 0, 1);
        same(start, 0, least);
        allTests(start, 5, 5, "1000001111");
        allTests(start, 0, 0, "1000001111");
        allTests(start, minusOne, minusOne, "1000001111");
        allTests(start, 3, 7, "0111001100");
        allTests(start, 7, 3, "0100110011");
        allTests(start, minusOne, 1, "0110011001");
        allTests(start, 1, minusOne, "0101100110");
        allTests(start, least, least - 1, "0110011001");
        allTests(start, least, minusOne, "0111001100");
    }

    private static void allTests(int start, long x, long y, String answers) {
        for (int i = 0; i < answers.length(); i++) {
            same(start + 1 + i, answers.charAt(i) - '0', x, y);
        }
    }

    private static void counts() {
        same(103, 32, 0);
        same(103, 0, MINUS_ONE_32);
        same(103, 31, 1);
        same(103, 15, 0x00010000L);
        same(104, 32, 0);
        same(104, 0, 1);
        same(104, 31, LEAST_32);
        same(104, 4, 0xFFF0L);
        same(105, 0, 0);
        same(105, 32, MINUS_ONE_32);
        same(105, 3, 0x80010001L);
        same(121, 64, 0);
        same(121, 0, -1);
        same(121, 63, 1);
        same(121, 31, 0x100000000L);
        same(122, 64, 0);
        same(122, 63, LEAST_64);
        same(122, 32, 0x100000000L);
        same(123, 0, 0);
        same(123, 64, -1);
        same(123, 2, 0x8000000100000000L);
    }

    private static void sums() {
        same(106, 12, 5, 7);
        same(106, 0, MINUS_ONE_32, 1);
        same(106, LEAST_32, 0x7FFFFFFFL, 1);
        same(107, 3, 10, 7);
        same(107, MINUS_ONE_32, 0, 1);
        same(107, 0x7FFFFFFFL, LEAST_32, 1);
        same(108, 35, 5, 7);
        same(108, 1, MINUS_ONE_32, MINUS_ONE_32);
        same(108, 0, 0x10000L, 0x10000L);
        same(108, 0x366176F8L, 0x12345678L, 0x9ABCDEF1L);
        same(124, 0, -1, 1);
        same(124, LEAST_64, Long.MAX_VALUE, 1);
        same(124, 0x100000000L, MINUS_ONE_32, 1);
        same(125, 3, 10, 7);
        same(125, -1, 0, 1);
        same(125, Long.MAX_VALUE, LEAST_64, 1);
        same(126, -6, 2, -3);
        same(126, 0, 0x100000000L, 0x100000000L);
        same(126, 0xFFFFFFFE00000001L, MINUS_ONE_32, MINUS_ONE_32);
        same(126, 0x347E9A0F6729E001L, 0x123456789ABCDEF1L, 0xFEDCBA9876543211L);
    }

    private static void quotients() {
        same(109, 3, 7, 2);
        same(109, 0xFFFFFFFDL, 7, 0xFFFFFFFEL);
        same(109, 0xFFFFFFFDL, 0xFFFFFFF9L, 2);
        same(109, 3, 0xFFFFFFF9L, 0xFFFFFFFEL);
        same(109, LEAST_32, LEAST_32, 1);
        same(109, 0x80000001L, 0x7FFFFFFFL, MINUS_ONE_32);
        same(109, 0, 1, LEAST_32);
        same(110, 3, 7, 2);
        same(110, 0x7FFFFFFCL, 0xFFFFFFF9L, 2);
        same(110, 0, LEAST_32, MINUS_ONE_32);
        same(110, MINUS_ONE_32, MINUS_ONE_32, 1);
        same(127, -3, 7, -2);
        same(127, -3, -7, 2);
        same(127, LEAST_64, LEAST_64, 1);
        same(127, 0x80000000L, LEAST_32, 1);
        same(127, -0x80000000L, LEAST_32, -1);
        same(128, 0, LEAST_64, -1);
        same(128, 0x1999999999999999L, -1, 10);
        same(128, 1, -1, LEAST_64);
        same(128, 1, LEAST_64, LEAST_64);
        same(128, 0, Long.MAX_VALUE, LEAST_64);
    }

    private static void remainders() {
        same(111, 1, 7, 2);
        same(111, 1, 7, 0xFFFFFFFEL);
        same(111, MINUS_ONE_32, 0xFFFFFFF9L, 2);
        same(111, MINUS_ONE_32, 0xFFFFFFF9L, 0xFFFFFFFEL);
        same(111, 0, LEAST_32, MINUS_ONE_32);
        same(112, 1, 0xFFFFFFF9L, 2);
        same(112, LEAST_32, LEAST_32, MINUS_ONE_32);
        same(112, 0, 12, 4);
        same(129, 1, 7, -2);
        same(129, -1, -7, 2);
        same(129, -1, -7, -2);
        same(129, 0, LEAST_64, -1);
        same(130, 5, -1, 10);
        same(130, LEAST_64, LEAST_64, -1);
        same(130, Long.MAX_VALUE, -1, LEAST_64);
    }

    /** Quotient and remainder without sign, the highest bit being 1 in x, in y, in both. */
    private static void withHighestBit(int divide, int remainder, long least, long most) {
        long half = least - 1;
        both(divide, remainder, least, 1, least, 0);
        both(divide, remainder, most, 1, most, 0);
        both(divide, remainder, least, 2, least / 2 & half, 0);
        both(divide, remainder, most, 2, half, 1);
        both(divide, remainder, least, half, 1, 1);
        both(divide, remainder, least + 1, half, 1, 2);
        both(divide, remainder, most - 1, half, 2, 0);
        both(divide, remainder, most, half, 2, 1);
        both(divide, remainder, most - 2, half, 1, half - 1);
        both(divide, remainder, most, half - 1, 2, 3);
        both(divide, remainder, 0, least, 0, 0);
        both(divide, remainder, 1, most, 0, 1);
        both(divide, remainder, half, least, 0, half);
        both(divide, remainder, half, most, 0, half);
        both(divide, remainder, least, least, 1, 0);
        both(divide, remainder, most, most, 1, 0);
        both(divide, remainder, least, least + 1, 0, least);
        both(divide, remainder, least + 1, least, 1, 1);
        both(divide, remainder, most - 1, most, 0, most - 1);
        both(divide, remainder, most, most - 1, 1, 1);
        both(divide, remainder, most, least, 1, half);
        both(divide, remainder, least, most, 0, least);
    }

    private static void withoutSignOf64() {
        both(128, 130, -1, 3, 0x5555555555555555L, 0);
        both(128, 130, -1, 7, 0x2492492492492492L, 1);
        both(128, 130, -1, 0xFFFFFFFFL, 0x100000001L, 0);
        both(128, 130, -1, 0x100000000L, 0xFFFFFFFFL, 0xFFFFFFFFL);
        both(128, 130, 0xFEDCBA9876543210L, 0x123456789ABCDEFL, 0xE0, 0xF0);
        both(128, 130, 0xFEDCBA9876543210L, 10, 0x197C790F3F086B68L, 0);
        both(110, 112, 0xFEDCBA98L, 10, 0x197C790FL, 2);
        both(110, 112, MINUS_ONE_32, 0x10000L, 0xFFFFL, 0xFFFFL);
    }

    private static void both(int divide, int remainder, long x, long y, long quotient, long rest) {
        same(divide, quotient, x, y);
        same(remainder, rest, x, y);
    }

    private static void rowsOfBits() {
        same(113, 0x8000F000L, 0xF000F0F0L, 0x8F0FFF00L);
        same(114, 0xFFFFFFF0L, 0xF0F0F0F0L, 0x0F0F0F00L);
        same(115, 0xFF00FF00L, 0xF0F0F0F0L, 0x0FF00FF0L);
        same(131, 0xF000000000000001L, 0xF00000000000FFFFL, 0xFFFFFFFFFFFF0001L);
        same(132, 0xFFFF00000000FFFFL, 0xFF00000000000FFFL, 0x00FF00000000F000L);
        same(133, 0x0F0F0F0F0F0F0F0FL, -1, 0xF0F0F0F0F0F0F0F0L);
    }

    private static void shifts() {
        same(116, 0x80000000L, 1, 31);
        same(116, 0, LEAST_32, 1);
        same(116, 5, 5, 32);
        same(116, 10, 5, 33);
        same(116, 0x80000000L, 1, MINUS_ONE_32);
        same(117, 0xF0000000L, LEAST_32, 3);
        same(117, MINUS_ONE_32, LEAST_32, 31);
        same(117, LEAST_32, LEAST_32, 32);
        same(117, 0x3FFFFFFFL, 0x7FFFFFFFL, 1);
        same(118, 0x10000000L, LEAST_32, 3);
        same(118, 1, LEAST_32, 31);
        same(118, LEAST_32, LEAST_32, 64);
        same(134, LEAST_64, 1, 63);
        same(134, 0x100000000L, 1, 32);
        same(134, 5, 5, 64);
        same(134, LEAST_64, 1, -1);
        same(134, 5, 5, 0x100000000L);
        same(135, 0xF000000000000000L, LEAST_64, 3);
        same(135, -1, LEAST_64, 63);
        same(135, LEAST_64, LEAST_64, 64);
        same(136, 0x1000000000000000L, LEAST_64, 3);
        same(136, 1, LEAST_64, 127);
    }

    private static void turns() {
        same(119, 0x23456781L, 0x12345678L, 4);
        same(119, 0x12345678L, 0x12345678L, 0);
        same(119, 0x12345678L, 0x12345678L, 32);
        same(119, 0x81234567L, 0x12345678L, 28);
        same(120, 0x81234567L, 0x12345678L, 4);
        same(120, 0x12345678L, 0x12345678L, 0);
        same(120, 0x12345678L, 0x12345678L, 64);
        same(120, 0x81234567L, 0x12345678L, 36);
        same(137, 0x23456789ABCDEF01L, 0x123456789ABCDEF0L, 4);
        same(137, 0x9ABCDEF012345678L, 0x123456789ABCDEF0L, 32);
        same(137, 0x123456789ABCDEF0L, 0x123456789ABCDEF0L, 0);
        same(138, 0x0123456789ABCDEFL, 0x123456789ABCDEF0L, 4);
        same(138, 0x9ABCDEF012345678L, 0x123456789ABCDEF0L, 96);
        same(138, 0x123456789ABCDEF0L, 0x123456789ABCDEF0L, 64);
    }

    private static void traps() {
        for (int operator = 109; operator <= 112; operator++) {
            trap(operator, 1, 5, 0);
            trap(operator, 1, 0, 0);
            trap(operator, 1, LEAST_32, 0);
            trap(operator, 1, 5, 0x700000000L);
        }
        for (int operator = 127; operator <= 130; operator++) {
            trap(operator, 1, 5, 0);
            trap(operator, 1, 0, 0);
            trap(operator, 1, LEAST_64, 0);
        }
        trap(109, 2, LEAST_32, MINUS_ONE_32);
        trap(127, 2, LEAST_64, -1);
    }

    /** What is above the 32 bits when they are given is not looked at. */
    private static void operandsAreCut() {
        long above = 0x5A5A5A5A00000000L;
        same(69, 1, above);
        same(70, 1, above | 3, 3);
        same(73, 1, above | 3, 4);
        same(103, 31, above | 1);
        same(105, 1, above | 1);
        same(110, 2, above | 7, 3);
        same(118, 1, above | 2, 1);
    }

    private static void same(int operator, long bits, long... operands) {
        APPLIED.gives(operator, bits, operands);
    }

    private static void trap(int operator, int trap, long x, long y) {
        APPLIED.traps(operator, trap, x, y);
    }
}
