/** Promise 2: push. */
final class Promise02PushTest {
    private static final Check CHECK = new Check("Promise02PushTest");

    public static void main(String[] args) {
        aValueComes();
        notAType();
        thereAre64();
        notAnyBitsAbove();
        CHECK.end();
    }

    private static void aValueComes() {
        CHECK.sentence(2, "A value comes on the stack: how many there are.");
        for (int type = 0; type < 4; type++) {
            Held held = new Held(CHECK);
            for (int i = 0; i < 64; i++) {
                held.push(type, Edges.LONGS[i % Edges.LONGS.length]);
            }
            held.holds("64 pushes of type " + type);
        }
        for (int count : new int[] {0, 1, 62, 63}) {
            for (int type = 0; type < 4; type++) {
                Held held = Held.with(CHECK, count);
                held.push(type, -7);
                held.holds("push(" + type + ", -7)");
                held.clear();
            }
        }
    }

    private static void notAType() {
        CHECK.sentence(2, "-1, doing nothing, when type is not 0 .. 3");
        for (int count : Edges.COUNTS) {
            for (int type : Edges.NO_TYPES) {
                Held held = Held.with(CHECK, count);
                for (long bits : Edges.LONGS) {
                    held.due("push(" + type + ", " + bits + ")", n -> n.push(type, bits), -1);
                }
                held.holds("pushes of type " + type);
                held.clear();
            }
        }
    }

    private static void thereAre64() {
        CHECK.sentence(2, "-1, doing nothing, when .. there are 64.");
        for (int top = 0; top < 4; top++) {
            Held held = Held.with(CHECK, 62);
            held.push(top, 62);
            held.push(top, 63);
            refusesEveryType(held, Edges.LONGS);
            held.holds("pushes on 64 values");
            held.pop();
            held.push(top, -64);
            refusesEveryType(held, -1);
            held.holds("a pop, a push and pushes that are too many");
            held.clear();
            held.push(top, 1);
        }
    }

    private static void refusesEveryType(Held held, long... rows) {
        for (int i = 0; i < 4; i++) {
            int type = i;
            for (long bits : rows) {
                held.due("push(" + type + ", " + bits + ")", n -> n.push(type, bits), -1);
            }
        }
    }

    private static void notAnyBitsAbove() {
        CHECK.sentence(2, "those of 32 as its lowest ones (.. not looked at when given)");
        long[] lowest = {0, 1, 0x7FFFFFFFL, 0x80000000L, 0x80000001L, 0xFFFFFFFFL};
        long[] above = {0, 1L << 32, 1L << 62, 1L << 63, 0x7FFFFFFF00000000L, 0xFFFFFFFF00000000L};
        for (int type = 0; type < 4; type++) {
            Held held = new Held(CHECK);
            for (long low : lowest) {
                for (long high : above) {
                    held.push(type, high | low);
                }
            }
            held.holds("pushes of type " + type);
        }
        for (long high : above) {
            Held held = new Held(CHECK);
            held.push(2, high | 0x3F800000L);
            held.due("parts(0, 0)", n -> n.parts(0, 0), 0);
            held.due("parts(0, 1)", n -> n.parts(0, 1), 127);
            held.push(0, high);
            held.apply(69, 1);
            held.holds("apply(69)");
        }
    }
}
