import java.util.ArrayList;
import java.util.List;

/** The operators there are, written out from the document's 'Terms'. */
final class Facts {
    /** First, last, how many operands, their type, the result's type. */
    private static final int[][] ROWS = {
        {69, 69, 1, 0, 0}, {70, 79, 2, 0, 0}, {80, 80, 1, 1, 0}, {81, 90, 2, 1, 0},
        {91, 96, 2, 2, 0}, {97, 102, 2, 3, 0},
        {103, 105, 1, 0, 0}, {106, 120, 2, 0, 0}, {121, 123, 1, 1, 1}, {124, 138, 2, 1, 1},
        {139, 145, 1, 2, 2}, {146, 152, 2, 2, 2}, {153, 159, 1, 3, 3}, {160, 166, 2, 3, 3},
        {167, 167, 1, 1, 0}, {168, 169, 1, 2, 0}, {170, 171, 1, 3, 0},
        {172, 173, 1, 0, 1}, {174, 175, 1, 2, 1}, {176, 177, 1, 3, 1},
        {178, 179, 1, 0, 2}, {180, 181, 1, 1, 2}, {182, 182, 1, 3, 2},
        {183, 184, 1, 0, 3}, {185, 186, 1, 1, 3}, {187, 187, 1, 2, 3},
        {188, 188, 1, 2, 0}, {189, 189, 1, 3, 1}, {190, 190, 1, 0, 2}, {191, 191, 1, 1, 3},
        {192, 193, 1, 0, 0}, {194, 196, 1, 1, 1},
        {200, 201, 1, 2, 0}, {202, 203, 1, 3, 0}, {204, 205, 1, 2, 1}, {206, 207, 1, 3, 1}};

    /** On each side of each edge of the operators' numbers, and the least and the greatest int. */
    static final int[] NO_OPERATORS = {
        Integer.MIN_VALUE, Integer.MIN_VALUE + 69, -69, -1, 0, 1, 67, 68, 197, 198, 199, 208, 209, 255, 256 + 69,
        65536 + 106, Integer.MAX_VALUE};

    static List<Integer> operators() {
        List<Integer> operators = new ArrayList<>();
        for (int[] row : ROWS) {
            for (int operator = row[0]; operator <= row[1]; operator++) {
                operators.add(operator);
            }
        }
        return operators;
    }

    static boolean exists(int operator) {
        return find(operator) != null;
    }

    static int operands(int operator) {
        return row(operator)[2];
    }

    static int type(int operator) {
        return row(operator)[3];
    }

    static int resultType(int operator) {
        return row(operator)[4];
    }

    private static int[] row(int operator) {
        int[] row = find(operator);
        if (row == null) {
            throw new IllegalArgumentException("a fault of the test: no operator " + operator);
        }
        return row;
    }

    private static int[] find(int operator) {
        for (int[] row : ROWS) {
            if (operator >= row[0] && operator <= row[1]) {
                return row;
            }
        }
        return null;
    }

    private Facts() {
    }
}
