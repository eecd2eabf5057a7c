/** Promise 7: type. */
final class Promise07TypeTest {
    private static final Check CHECK = new Check("Promise07TypeTest");

    public static void main(String[] args) {
        ofTheKthValue();
        thereIsNone();
        noLongerThere();
        CHECK.end();
    }

    private static void ofTheKthValue() {
        CHECK.sentence(7, "Of the k-th value from the top (0 on top): its type");
        for (int count : Edges.COUNTS) {
            Held held = Held.with(CHECK, count);
            for (int i = 0; i < count; i++) {
                int k = i;
                held.due("type(" + k + ")", n -> n.type(k), (count - 1 - k) % 4);
            }
            held.holds("type()");
        }
    }

    private static void thereIsNone() {
        CHECK.sentence(7, "-1 when there is none.");
        for (int count : Edges.COUNTS) {
            Held held = Held.with(CHECK, count);
            for (int k : Edges.placesOutside(count)) {
                held.due("type(" + k + ")", n -> n.type(k), -1);
            }
            held.holds("type() where there is none");
        }
    }

    private static void noLongerThere() {
        CHECK.sentence(7, "-1 when there is none. (.. any more)");
        Held held = Held.with(CHECK, 64);
        held.pop();
        held.due("type(62)", n -> n.type(62), 0);
        held.due("type(63)", n -> n.type(63), -1);
        held.clear();
        held.due("type(0)", n -> n.type(0), -1);
        held.push(1, 6);
        held.push(1, 2);
        held.apply(127, 3);
        held.due("type(0)", n -> n.type(0), 1);
        held.due("type(1)", n -> n.type(1), -1);
    }
}
