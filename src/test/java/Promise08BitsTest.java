/** Promise 8: bits. */
final class Promise08BitsTest {
    private static final Check CHECK = new Check("Promise08BitsTest");

    public static void main(String[] args) {
        ofTheKthValue();
        thereIsNone();
        noLongerThere();
        bitsAreTold();
        CHECK.end();
    }

    private static void ofTheKthValue() {
        CHECK.sentence(8, "Its bits");
        for (int count : Edges.COUNTS) {
            Held held = new Held(CHECK);
            for (int i = 0; i < count; i++) {
                held.push(3, 1000 - i);
            }
            for (int i = 0; i < count; i++) {
                int k = i;
                held.due("bits(" + k + ")", n -> n.bits(k), 1000 - (count - 1 - k));
            }
            held.holds("bits()");
        }
    }

    private static void thereIsNone() {
        CHECK.sentence(8, "0 when there is none.");
        for (int count : Edges.COUNTS) {
            Held held = new Held(CHECK);
            for (int i = 0; i < count; i++) {
                held.push(i % 4, -1);
            }
            for (int k : Edges.placesOutside(count)) {
                held.due("bits(" + k + ")", n -> n.bits(k), 0);
            }
            held.holds("bits() where there is none");
        }
    }

    private static void noLongerThere() {
        CHECK.sentence(8, "0 when there is none. (.. any more)");
        Held held = new Held(CHECK);
        for (int i = 0; i < 64; i++) {
            held.push(1, -1 - i);
        }
        held.pop();
        held.due("bits(62)", n -> n.bits(62), -1);
        held.due("bits(63)", n -> n.bits(63), 0);
        held.clear();
        held.due("bits(0)", n -> n.bits(0), 0);
        held.push(1, 6);
        held.push(1, 2);
        held.apply(127, 3);
        held.due("bits(0)", n -> n.bits(0), 3);
        held.due("bits(1)", n -> n.bits(1), 0);
    }

    private static void bitsAreTold() {
        CHECK.sentence(8,
            "bits are told and given in a long, those of 32 as its lowest ones (the others are 0 when told ..)");
        for (int type = 0; type < 4; type++) {
            for (long bits : Edges.LONGS) {
                Held held = new Held(CHECK);
                held.push(type, bits);
                held.due("bits(0)", n -> n.bits(0), type % 2 == 0 ? bits & 0xFFFFFFFFL : bits);
                held.copy(0);
                held.due("bits(0)", n -> n.bits(0), type % 2 == 0 ? bits & 0xFFFFFFFFL : bits);
            }
        }
    }
}
