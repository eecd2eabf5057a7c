/** Promise 1: a new object. */
final class Promise01NewObjectTest {
    private static final Check CHECK = new Check("Promise01NewObjectTest");

    public static void main(String[] args) {
        anEmptyStack();
        anEmptyStackForEveryOperator();
        objectsOfTheirOwn();
        atMost512Calls();
        CHECK.end();
    }

    private static void anEmptyStack() {
        CHECK.sentence(1, "An empty stack.");
        Held held = new Held(CHECK);
        held.due("trap()", BitNumbers::trap, 0);
        for (int k : Edges.placesOutside(0)) {
            held.due("type(" + k + ")", n -> n.type(k), -1);
            held.due("bits(" + k + ")", n -> n.bits(k), 0);
            held.due("copy(" + k + ")", n -> n.copy(k), -1);
            for (int what = -1; what <= 3; what++) {
                int part = what;
                held.due("parts(" + k + ", " + part + ")", n -> n.parts(k, part), -1);
            }
        }
        held.due("pop()", BitNumbers::pop, Held.NOT_THERE);
        held.due("clear()", BitNumbers::clear, 0);
        held.holds("calls that find nothing");
        new Held(CHECK).due("clear() as the first call", BitNumbers::clear, 0);
        new Held(CHECK).due("pop() as the first call", BitNumbers::pop, Held.NOT_THERE);
        for (int type = 0; type < 4; type++) {
            Held other = new Held(CHECK);
            other.push(type, -1);
            other.holds("the first push");
        }
    }

    private static void anEmptyStackForEveryOperator() {
        CHECK.sentence(1, "An empty stack. (no operator finds its operands)");
        for (int operator : Facts.operators()) {
            Held held = new Held(CHECK);
            held.applyThrows(operator, Held.NOT_THERE, 0);
            held.holds("apply(" + operator + ")");
            held.clear();
        }
    }

    private static void objectsOfTheirOwn() {
        CHECK.sentence(1, "An empty stack. (whatever other objects hold)");
        Held full = Held.with(CHECK, 62);
        full.push(0, 1);
        full.push(0, 0);
        full.applyThrows(109, Held.TRAP, 1);
        Held fresh = new Held(CHECK);
        fresh.holds("another object's calls");
        fresh.push(3, 5);
        full.holds("another object's push");
        fresh.clear();
        full.holds("another object's clear");
    }

    private static void atMost512Calls() {
        CHECK.sentence(1, "An object is used for at most 512 calls after it has been made");
        Held held = new Held(CHECK);
        while (held.calls() < 448) {
            held.push(held.calls() % 4, held.calls());
            held.pop();
        }
        while (held.calls() < 511) {
            held.push(held.calls() % 4, -held.calls());
        }
        held.due("push(1, -1) as call 512", n -> n.push(1, -1), 64);
        CHECK.due("calls made", held.calls(), 512);
    }
}
