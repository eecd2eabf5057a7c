/** Promise 5: trap. */
final class Promise05TrapTest {
    private static final Check CHECK = new Check("Promise05TrapTest");

    public static void main(String[] args) {
        whichTrap();
        theLatestOne();
        itWasNone();
        thereWasNone();
        otherCallsAreNoApply();
        CHECK.end();
    }

    private static void whichTrap() {
        CHECK.sentence(5, "Which TRAP the latest apply() was: 1, 2, 3");
        for (int trap = 1; trap <= 3; trap++) {
            Held held = new Held(CHECK);
            trapped(held, trap);
            held.trapIsTold("a trap");
            held.trapIsTold("a trap, told already");
        }
    }

    private static void theLatestOne() {
        CHECK.sentence(5, "Which TRAP the latest apply() was (.. the latest)");
        for (int first = 1; first <= 3; first++) {
            for (int second = 1; second <= 3; second++) {
                Held held = new Held(CHECK);
                trapped(held, first);
                trapped(held, second);
                held.holds("trap " + first + " and trap " + second);
            }
        }
    }

    private static void itWasNone() {
        CHECK.sentence(5, "0 when it was none");
        for (int trap = 1; trap <= 3; trap++) {
            Held held = new Held(CHECK);
            trapped(held, trap);
            held.push(0, 5);
            held.apply(69, 0);
            held.holds("a result behind trap " + trap);
            trapped(held, trap);
            held.applyThrows(197, Held.NO_OPERATOR, 0);
            held.holds("no operator behind trap " + trap);
            trapped(held, trap);
            held.clear();
            held.trapIsTold("clear()");
            held.applyThrows(106, Held.NOT_THERE, 0);
            held.holds("no operands behind trap " + trap);
        }
        Held held = new Held(CHECK);
        held.push(0, 7);
        held.push(0, 2);
        held.apply(109, 3);
        held.holds("a result as the first apply()");
        held.push(3, 0x7FF8000000000001L);
        held.apply(206, 0);
        held.holds("206, which would be a trap as 176");
    }

    private static void thereWasNone() {
        CHECK.sentence(5, "0 when .. there was none.");
        Held held = new Held(CHECK);
        held.trapIsTold("nothing");
        held.push(0, 1);
        held.push(0, 0);
        held.copy(1);
        held.pop();
        held.due("operator(109, 0)", n -> n.operator(109, 0), 2);
        held.due("parts(0, 2)", n -> n.parts(0, 2), -1);
        held.holds("calls, none of which is apply()");
        held.clear();
        held.due("pop()", BitNumbers::pop, Held.NOT_THERE);
        held.trapIsTold("a pop() that threw");
    }

    private static void otherCallsAreNoApply() {
        CHECK.sentence(5, "Which TRAP the latest apply() was (.. apply(), not another call)");
        for (int trap = 1; trap <= 3; trap++) {
            Held held = new Held(CHECK);
            trapped(held, trap);
            held.push(1, 1);
            held.trapIsTold("push");
            held.due("push(4, 1)", n -> n.push(4, 1), -1);
            held.trapIsTold("a push that is refused");
            held.copy(0);
            held.trapIsTold("copy");
            held.due("copy(-1)", n -> n.copy(-1), -1);
            held.trapIsTold("a copy that is refused");
            held.pop();
            held.trapIsTold("pop");
            held.due("operator(69, 0)", n -> n.operator(69, 0), 1);
            held.trapIsTold("operator");
            held.due("operator(68, 0)", n -> n.operator(68, 0), -1);
            held.trapIsTold("operator of none");
            held.due("parts(0, 0)", n -> n.parts(0, 0), -1);
            held.holds("looks");
            held.clear();
            held.trapIsTold("clear");
            held.due("pop()", BitNumbers::pop, Held.NOT_THERE);
            held.trapIsTold("a pop() that threw");
        }
    }

    private static void trapped(Held held, int trap) {
        if (trap == 1) {
            held.push(1, 9);
            held.push(1, 0);
            held.applyThrows(128, Held.TRAP, 1);
        } else if (trap == 2) {
            held.push(2, 0x7F800000L);
            held.applyThrows(175, Held.TRAP, 2);
        } else {
            held.push(3, 0xFFF0000000000001L);
            held.applyThrows(170, Held.TRAP, 3);
        }
    }
}
