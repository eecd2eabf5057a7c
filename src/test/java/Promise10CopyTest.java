/** Promise 10: copy. */
final class Promise10CopyTest {
    private static final Check CHECK = new Check("Promise10CopyTest");

    public static void main(String[] args) {
        theKthValueComesOnTop();
        thereIsNone();
        thereAre64();
        theCopyIsAValueOfItsOwn();
        CHECK.end();
    }

    private static void theKthValueComesOnTop() {
        CHECK.sentence(10, "The k-th value from the top comes on top once more: how many there are.");
        for (int count : new int[] {1, 2, 3, 62, 63}) {
            for (int k : Edges.placesInside(count)) {
                Held held = Held.with(CHECK, count);
                held.copy(k);
                held.holds("copy(" + k + ")");
                held.clear();
            }
        }
        Held held = Held.with(CHECK, 1);
        while (held.count() < 64) {
            held.copy(held.count() - 1);
        }
        held.holds("63 copies of the lowest value");
        Held risen = Held.with(CHECK, 32);
        while (risen.count() < 64) {
            risen.copy(31);
        }
        risen.holds("32 copies, one of each value");
    }

    private static void thereIsNone() {
        CHECK.sentence(10, "-1, doing nothing, when there is none");
        for (int count : Edges.COUNTS) {
            Held held = Held.with(CHECK, count);
            for (int k : Edges.placesOutside(count)) {
                held.due("copy(" + k + ")", n -> n.copy(k), -1);
            }
            held.holds("copies where there is none");
            held.clear();
            held.due("copy(0)", n -> n.copy(0), -1);
            held.holds("copy(0) of what is gone");
        }
    }

    private static void thereAre64() {
        CHECK.sentence(10, "-1, doing nothing, when .. there are 64.");
        Held held = Held.with(CHECK, 64);
        for (int i = 0; i <= 64; i++) {
            int k = i;
            held.due("copy(" + k + ")", n -> n.copy(k), -1);
        }
        held.holds("copies on 64 values");
        held.pop();
        held.copy(62);
        held.due("copy(62)", n -> n.copy(62), -1);
        held.holds("a pop, a copy and one too many");
    }

    private static void theCopyIsAValueOfItsOwn() {
        CHECK.sentence(10, "comes on top once more (.. and what is done to it leaves the other)");
        for (int type = 0; type < 4; type++) {
            for (long bits : Edges.LONGS) {
                Held held = new Held(CHECK);
                held.push(type, bits);
                held.push(1, 3);
                held.copy(1);
                held.holds("copy(1)");
                held.pop();
                held.holds("copy(1) and pop()");
            }
        }
        Held held = new Held(CHECK);
        held.push(0, 5);
        held.copy(0);
        held.apply(69, 0);
        held.holds("copy(0) and apply(69)");
    }
}
