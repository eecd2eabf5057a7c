/** Promise 11: clear. */
final class Promise11ClearTest {
    private static final Check CHECK = new Check("Promise11ClearTest");

    public static void main(String[] args) {
        theStackIsEmpty();
        howManyThereWere();
        afterRefusedCalls();
        CHECK.end();
    }

    private static void theStackIsEmpty() {
        CHECK.sentence(11, "The stack is empty");
        for (int count : Edges.COUNTS) {
            Held held = Held.with(CHECK, count);
            held.clear();
            held.holds("clear()");
            for (int k : Edges.placesOutside(0)) {
                held.due("type(" + k + ")", n -> n.type(k), -1);
                held.due("bits(" + k + ")", n -> n.bits(k), 0);
                held.due("parts(" + k + ", 0)", n -> n.parts(k, 0), -1);
                held.due("copy(" + k + ")", n -> n.copy(k), -1);
            }
            held.due("pop()", BitNumbers::pop, Held.NOT_THERE);
            held.applyThrows(69, Held.NOT_THERE, 0);
            held.applyThrows(166, Held.NOT_THERE, 0);
            held.push(2, 1);
            held.holds("a push on the cleared stack");
        }
        Held held = Held.with(CHECK, 64);
        held.clear();
        while (held.count() < 64) {
            held.push(3, held.count());
        }
        held.due("push(3, 1)", n -> n.push(3, 1), -1);
        held.holds("64 pushes on the cleared stack");
    }

    private static void howManyThereWere() {
        CHECK.sentence(11, "how many values there were.");
        for (int count = 0; count <= 64; count++) {
            Held held = Held.with(CHECK, count);
            held.due("clear()", BitNumbers::clear, count);
            held.due("clear() again", BitNumbers::clear, 0);
        }
    }

    private static void afterRefusedCalls() {
        CHECK.sentence(11, "how many values there were. (calls that did nothing brought none)");
        for (int count : Edges.COUNTS) {
            Held held = Held.with(CHECK, count);
            held.due("push(-1, 0)", n -> n.push(-1, 0), -1);
            held.due("copy(64)", n -> n.copy(64), -1);
            held.applyThrows(68, Held.NO_OPERATOR, 0);
            held.due("clear()", BitNumbers::clear, count);
        }
        Held trapped = new Held(CHECK);
        trapped.push(0, 1);
        trapped.push(0, 0);
        trapped.applyThrows(112, Held.TRAP, 1);
        trapped.clear();
        trapped.holds("clear() after a trap");
    }
}
