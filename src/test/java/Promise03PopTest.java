/** Promise 3: pop. */
final class Promise03PopTest {
    private static final Check CHECK = new Check("Promise03PopTest");

    public static void main(String[] args) {
        theValueOnTopGoes();
        thereIsNone();
        bitsAreTold();
        CHECK.end();
    }

    private static void theValueOnTopGoes() {
        CHECK.sentence(3, "The value on top goes: its bits.");
        for (int count : new int[] {1, 2, 63, 64}) {
            Held held = Held.with(CHECK, count);
            held.pop();
            held.holds("pop()");
            while (held.count() > 0) {
                held.pop();
            }
            held.holds("the last pop()");
        }
        Held held = Held.with(CHECK, 64);
        held.pop();
        held.pop();
        held.push(3, 63);
        held.push(0, 64);
        held.holds("two values taken and put again");
    }

    private static void thereIsNone() {
        CHECK.sentence(3, "IllegalStateException: there is none.");
        for (int count : Edges.COUNTS) {
            Held popped = Held.with(CHECK, count);
            while (popped.count() > 0) {
                popped.pop();
            }
            Held cleared = Held.with(CHECK, count);
            cleared.clear();
            for (Held held : new Held[] {popped, cleared}) {
                held.due("pop()", BitNumbers::pop, Held.NOT_THERE);
                held.due("pop() again", BitNumbers::pop, Held.NOT_THERE);
                held.holds("pop() with none");
                held.due("clear()", BitNumbers::clear, 0);
                held.push(1, -1);
                held.pop();
                held.due("pop() after the only value's", BitNumbers::pop, Held.NOT_THERE);
            }
        }
        Held held = new Held(CHECK);
        held.push(0, 5);
        held.push(0, 0);
        held.applyThrows(111, Held.TRAP, 1);
        held.pop();
        held.pop();
        held.due("pop()", BitNumbers::pop, Held.NOT_THERE);
        held.holds("pop() with none after a trap");
    }

    private static void bitsAreTold() {
        CHECK.sentence(3, "those of 32 as its lowest ones (the others are 0 when told ..)");
        for (int type = 0; type < 4; type++) {
            for (long bits : Edges.LONGS) {
                Held held = new Held(CHECK);
                held.push(type, bits);
                held.due("pop()", BitNumbers::pop, type % 2 == 0 ? bits & 0xFFFFFFFFL : bits);
            }
        }
    }
}
