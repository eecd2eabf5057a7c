import java.util.Objects;

/** Counts answers and prints those that are not as due; a test's main method ends with end(). */
final class Check {
    private static final int PRINTED = 50;

    private final String name;
    private int answers;
    private int wrong;

    Check(String name) {
        this.name = name;
    }

    void due(String call, Object got, Object want) {
        answers++;
        if (!Objects.equals(got, want)) {
            wrong++;
            if (wrong <= PRINTED) {
                System.out.println(name + ": " + call + " answered " + got + ", due is " + want);
            }
        }
    }

    void due(String call, long got, long want) {
        due(call, Long.valueOf(got), Long.valueOf(want));
    }

    void end() {
        System.out.println(name + ": " + answers + " answers, " + wrong + " not as due");
        if (wrong != 0 || answers == 0) {
            System.exit(1);
        }
    }
}
