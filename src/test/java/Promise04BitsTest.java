/** Promise 4, with the 'Terms' on bits: what operators take and give has as many bits as its type. */
final class Promise04BitsTest {
    private static final Check CHECK = new Check("Promise04BitsTest");
    private static final Applied APPLIED = new Applied(CHECK);
    private static final long[] LOWEST = {
        0, 1, 2, 3, 0x7FFFFFFEL, 0x7FFFFFFFL, 0x80000000L, 0x80000001L, 0xFFFFFFFEL, 0xFFFFFFFFL,
        0x3F800000L, 0xBF800000L, 0x7F7FFFFFL, 0x7F800000L, 0xFF800000L, 0x7F800001L, 0x7FC00000L, 0x4EFFFFFFL};
    private static final long[] ABOVE = {1L << 32, 1L << 63, 0x7FF0000000000000L, 0xFFFFFFFF00000000L};

    public static void main(String[] args) {
        notLookedAtWhenGiven();
        zeroWhenTold();
        allOf64AreLookedAt();
        signOfTheHighestBit();
        CHECK.end();
    }

    private static void notLookedAtWhenGiven() {
        CHECK.sentence(4, "those of 32 as its lowest ones (.. not looked at when given)");
        for (int operator : Facts.operators()) {
            if (Facts.type(operator) % 2 != 0) {
                continue;
            }
            for (long low : LOWEST) {
                for (long high : ABOVE) {
                    if (Facts.operands(operator) == 1) {
                        asIfCut(operator, high | low);
                        continue;
                    }
                    for (long other : LOWEST) {
                        asIfCut(operator, high | low, other);
                        asIfCut(operator, other, high | low);
                        asIfCut(operator, high | other, high | low);
                    }
                }
            }
        }
    }

    private static void asIfCut(int operator, long... operands) {
        long x = operands[0] & 0xFFFFFFFFL;
        long y = operands[operands.length - 1] & 0xFFFFFFFFL;
        Outcome due = Machine.due(operator, Facts.type(operator), Facts.resultType(operator), x, y);
        CHECK.due(Outcome.call(operator, operands), Outcome.of(CHECK, operator, operands), due);
    }

    private static void zeroWhenTold() {
        CHECK.sentence(4, "those of 32 as its lowest ones (the others are 0 when told ..)");
        APPLIED.gives(106, 0L, 0xFFFFFFFFL, 1);
        APPLIED.gives(106, 0xFFFFFFFEL, 0xFFFFFFFFL, 0xFFFFFFFFL);
        APPLIED.gives(107, 0xFFFFFFFFL, 0, 1);
        APPLIED.gives(108, 0xFFFFFFFEL, 0xFFFFFFFFL, 2);
        APPLIED.gives(109, 0xFFFFFFFFL, 1, 0xFFFFFFFFL);
        APPLIED.gives(111, 0xFFFFFFFFL, 0xFFFFFFFDL, 2);
        APPLIED.gives(116, 0x80000000L, 0xFFFFFFFFL, 31);
        APPLIED.gives(117, 0xFFFFFFFFL, 0x80000000L, 31);
        APPLIED.gives(119, 0xFFFFFFFFL, 0xFFFFFFFFL, 1);
        APPLIED.gives(120, 0x80000000L, 1, 1);
        APPLIED.gives(140, 0x80000000L, 0);
        APPLIED.gives(147, 0xBF800000L, 0, 0x3F800000L);
        APPLIED.gives(152, 0xFF800000L, 0x7F800000L, 0xFFFFFFFFL);
        APPLIED.gives(167, 0xFFFFFFFFL, -1);
        APPLIED.gives(168, 0xFFFFFFFFL, 0xBF800000L);
        APPLIED.gives(170, 0x80000000L, 0xC1E0000000000000L);
        APPLIED.gives(178, 0xBF800000L, 0xFFFFFFFFL);
        APPLIED.gives(180, 0xBF800000L, -1);
        APPLIED.gives(182, 0xBF800000L, 0xBFF0000000000000L);
        APPLIED.gives(188, 0xFFFFFFFFL, 0xFFFFFFFFL);
        APPLIED.gives(190, 0xFFFFFFFFL, 0xFFFFFFFFL);
        APPLIED.gives(192, 0xFFFFFF80L, 0x80);
        APPLIED.gives(193, 0xFFFF8000L, 0x8000);
        APPLIED.gives(202, 0x80000000L, 0xFFF0000000000000L);
        APPLIED.gives(203, 0xFFFFFFFFL, 0x7FF0000000000000L);
    }

    private static void allOf64AreLookedAt() {
        CHECK.sentence(4, "A VALUE is a type and as many bits (those of 64 are all looked at and told)");
        APPLIED.gives(80, 0, 1L << 32);
        APPLIED.gives(80, 0, Long.MIN_VALUE);
        APPLIED.gives(81, 0, 1L << 63, 0);
        APPLIED.gives(82, 1, 1L << 32, 0);
        APPLIED.gives(97, 0, 1L << 32, 0);
        APPLIED.gives(124, 1L << 32, 0xFFFFFFFFL, 1);
        APPLIED.gives(125, -1, 0, 1);
        APPLIED.gives(126, 0xFFFFFFFE00000001L, 0xFFFFFFFFL, 0xFFFFFFFFL);
        APPLIED.gives(154, Long.MIN_VALUE, 0);
        APPLIED.gives(154, 0x80000000L, 0x8000000080000000L);
        APPLIED.gives(172, -1, 0xFFFFFFFFL);
        APPLIED.gives(189, -1, -1);
        APPLIED.gives(191, 0x8000000080000001L, 0x8000000080000001L);
    }

    private static void signOfTheHighestBit() {
        CHECK.sentence(4, "WITH SIGN the highest bit counts negative, WITHOUT SIGN it doesn't.");
        highestBit(0, 72, 109, 117, 0x80000000L, 0x7FFFFFFFL);
        highestBit(1, 83, 127, 135, Long.MIN_VALUE, Long.MAX_VALUE);
        APPLIED.gives(172, -0x80000000L, 0x80000000L);
        APPLIED.gives(173, 0x80000000L, 0x80000000L);
        APPLIED.gives(172, 0x7FFFFFFFL, 0x7FFFFFFFL);
        APPLIED.gives(173, 0x7FFFFFFFL, 0x7FFFFFFFL);
        APPLIED.gives(178, 0xCF000000L, 0x80000000L);
        APPLIED.gives(179, 0x4F000000L, 0x80000000L);
        APPLIED.gives(180, 0xDF000000L, Long.MIN_VALUE);
        APPLIED.gives(181, 0x5F000000L, Long.MIN_VALUE);
        APPLIED.gives(183, 0xC1E0000000000000L, 0x80000000L);
        APPLIED.gives(184, 0x41E0000000000000L, 0x80000000L);
        APPLIED.gives(185, 0xC3E0000000000000L, Long.MIN_VALUE);
        APPLIED.gives(186, 0x43E0000000000000L, Long.MIN_VALUE);
    }

    private static void highestBit(int type, int less, int divide, int shift, long least, long greatest) {
        APPLIED.gives(less, 1, least, greatest);
        APPLIED.gives(less + 1, 0, least, greatest);
        APPLIED.gives(less, 0, greatest, least);
        APPLIED.gives(less + 1, 1, greatest, least);
        APPLIED.gives(divide, -2, least, greatest / 2 + 1);
        APPLIED.gives(divide + 1, 2, least, greatest / 2 + 1);
        APPLIED.gives(divide + 2, -1, Outcome.cut(type, -1), 2);
        APPLIED.gives(divide + 3, 1, Outcome.cut(type, -1), 2);
        APPLIED.gives(shift, -1, least, type == 0 ? 31 : 63);
        APPLIED.gives(shift + 1, 1, least, type == 0 ? 31 : 63);
    }
}
