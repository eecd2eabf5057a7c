/** Promise 9: parts. */
final class Promise09PartsTest {
    private static final Check CHECK = new Check("Promise09PartsTest");
    private static final int ZERO = 0;
    private static final int SMALL = 1;
    private static final int OTHER = 2;
    private static final int INFINITE = 3;
    private static final int NONE = 4;
    private static final long SIGN_32 = 0x80000000L;
    private static final long SIGN_64 = Long.MIN_VALUE;

    public static void main(String[] args) {
        ofType2();
        ofType3();
        everyExponent();
        ofTheKthValue();
        noFloatingValue();
        whatIsNot();
        CHECK.end();
    }

    private static void ofType2() {
        CHECK.sentence(9, "0 its sign, 1 its exponent e, 2 what it is (type 2)");
        bothSigns(2, SIGN_32, 0, 0, ZERO);
        bothSigns(2, SIGN_32, 1, 0, SMALL);
        bothSigns(2, SIGN_32, 0x00400000L, 0, SMALL);
        bothSigns(2, SIGN_32, 0x007FFFFFL, 0, SMALL);
        bothSigns(2, SIGN_32, 0x00800000L, 1, OTHER);
        bothSigns(2, SIGN_32, 0x00800001L, 1, OTHER);
        bothSigns(2, SIGN_32, 0x3F800000L, 127, OTHER);
        bothSigns(2, SIGN_32, 0x7F000000L, 254, OTHER);
        bothSigns(2, SIGN_32, 0x7F7FFFFFL, 254, OTHER);
        bothSigns(2, SIGN_32, 0x7F800000L, 255, INFINITE);
        bothSigns(2, SIGN_32, 0x7F800001L, 255, NONE);
        bothSigns(2, SIGN_32, 0x7FBFFFFFL, 255, NONE);
        bothSigns(2, SIGN_32, 0x7FC00000L, 255, NONE);
        bothSigns(2, SIGN_32, 0x7FFFFFFFL, 255, NONE);
        bothSigns(2, SIGN_32, 0x7FF0000000000000L, 0, ZERO);
        bothSigns(2, SIGN_32, 0xFFFFFFFF00000001L, 0, SMALL);
    }

    private static void ofType3() {
        CHECK.sentence(9, "0 its sign, 1 its exponent e, 2 what it is (type 3)");
        bothSigns(3, SIGN_64, 0, 0, ZERO);
        bothSigns(3, SIGN_64, 1, 0, SMALL);
        bothSigns(3, SIGN_64, SIGN_32, 0, SMALL);
        bothSigns(3, SIGN_64, 0x000FFFFFFFFFFFFFL, 0, SMALL);
        bothSigns(3, SIGN_64, 0x0010000000000000L, 1, OTHER);
        bothSigns(3, SIGN_64, 0x0010000000000001L, 1, OTHER);
        bothSigns(3, SIGN_64, 0x3FF0000000000000L, 1023, OTHER);
        bothSigns(3, SIGN_64, 0x7FE0000000000000L, 2046, OTHER);
        bothSigns(3, SIGN_64, 0x7FEFFFFFFFFFFFFFL, 2046, OTHER);
        bothSigns(3, SIGN_64, 0x7FF0000000000000L, 2047, INFINITE);
        bothSigns(3, SIGN_64, 0x7FF0000000000001L, 2047, NONE);
        bothSigns(3, SIGN_64, 0x7FF0000100000000L, 2047, NONE);
        bothSigns(3, SIGN_64, 0x7FF7FFFFFFFFFFFFL, 2047, NONE);
        bothSigns(3, SIGN_64, 0x7FF8000000000000L, 2047, NONE);
        bothSigns(3, SIGN_64, Long.MAX_VALUE, 2047, NONE);
    }

    private static void everyExponent() {
        CHECK.sentence(9, "a SIGN, an EXPONENT e of 8 (11) bits and a FRACTION f of 23 (52) bits");
        for (int e = 0; e <= 255; e++) {
            bothSigns(2, SIGN_32, (long) e << 23, e, e == 0 ? ZERO : e == 255 ? INFINITE : OTHER);
            bothSigns(2, SIGN_32, (long) e << 23 | 0x7FFFFFL, e, e == 0 ? SMALL : e == 255 ? NONE : OTHER);
        }
        for (int e = 0; e <= 2047; e++) {
            bothSigns(3, SIGN_64, (long) e << 52, e, e == 0 ? ZERO : e == 2047 ? INFINITE : OTHER);
            bothSigns(3, SIGN_64, (long) e << 52 | 1, e, e == 0 ? SMALL : e == 2047 ? NONE : OTHER);
        }
        for (int bit = 0; bit < 52; bit++) {
            bothSigns(3, SIGN_64, 0x7FF0000000000000L | 1L << bit, 2047, NONE);
            bothSigns(3, SIGN_64, 1L << bit, 0, SMALL);
        }
        for (int bit = 0; bit < 23; bit++) {
            bothSigns(2, SIGN_32, 0x7F800000L | 1L << bit, 255, NONE);
            bothSigns(2, SIGN_32, 1L << bit, 0, SMALL);
        }
    }

    private static void ofTheKthValue() {
        CHECK.sentence(9, "Of a floating value there");
        for (int count : Edges.COUNTS) {
            Held held = new Held(CHECK);
            for (int i = 0; i < count; i++) {
                held.push(i % 2 + 2, i % 2 == 0 ? (long) (i + 1) << 23 | SIGN_32 : (long) (i + 1) << 52);
            }
            for (int k : Edges.placesInside(count)) {
                int i = count - 1 - k;
                held.due("parts(" + k + ", 0)", n -> n.parts(k, 0), 1 - i % 2);
                held.due("parts(" + k + ", 1)", n -> n.parts(k, 1), i + 1);
                held.due("parts(" + k + ", 2)", n -> n.parts(k, 2), OTHER);
            }
            held.holds("parts()");
        }
    }

    private static void noFloatingValue() {
        CHECK.sentence(9, "-1 when there is no floating value");
        for (int count : Edges.COUNTS) {
            for (int what = 0; what <= 2; what++) {
                int part = what;
                Held held = Held.with(CHECK, count);
                for (int k : Edges.placesOutside(count)) {
                    held.due("parts(" + k + ", " + part + ")", n -> n.parts(k, part), -1);
                }
                for (int i = 0; i < count; i++) {
                    int k = i;
                    if (held.type(k) < 2) {
                        held.due("parts(" + k + ", " + part + ")", n -> n.parts(k, part), -1);
                    }
                }
                held.holds("parts() of no floating value");
            }
        }
        for (int type = 0; type < 2; type++) {
            for (long bits : Edges.LONGS) {
                Held held = new Held(CHECK);
                held.push(type, bits);
                held.due("parts(0, 0)", n -> n.parts(0, 0), -1);
                held.due("parts(0, 1)", n -> n.parts(0, 1), -1);
                held.due("parts(0, 2)", n -> n.parts(0, 2), -1);
                held.apply(type == 0 ? 190 : 191, bits);
                held.due("parts(0, 0), the same bits being floating,", n -> n.parts(0, 0), held.bits(0) < 0
                    || type == 0 && held.bits(0) >= SIGN_32 ? 1 : 0);
            }
        }
    }

    private static void whatIsNot() {
        CHECK.sentence(9, "-1 when .. what is not 0 .. 2.");
        for (int count : Edges.COUNTS) {
            Held held = Held.with(CHECK, count);
            for (int what : Edges.NO_WHATS) {
                for (int k = -1; k <= 4; k++) {
                    int place = k;
                    held.due("parts(" + place + ", " + what + ")", n -> n.parts(place, what), -1);
                }
            }
            held.holds("parts() of no such what");
        }
    }

    private static void bothSigns(int type, long signBit, long magnitude, int exponent, int kind) {
        for (int sign = 0; sign <= 1; sign++) {
            Held held = new Held(CHECK);
            held.push(type, sign == 1 ? magnitude | signBit : magnitude & ~signBit);
            String of = " of 0x" + Long.toHexString(held.bits(0));
            held.due("parts(0, 0)" + of, n -> n.parts(0, 0), sign);
            held.due("parts(0, 1)" + of, n -> n.parts(0, 1), exponent);
            held.due("parts(0, 2)" + of, n -> n.parts(0, 2), kind);
            held.due("bits(0)" + of, n -> n.bits(0), held.bits(0));
        }
    }
}
