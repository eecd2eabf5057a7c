import java.util.ArrayList;
import java.util.List;
import java.util.Random;

/** Promise 4: every operator against Java's own numbers, on edges with edges and on many other rows. */
final class MachineTest {
    private static final Check CHECK = new Check("MachineTest");
    private static final int PAIRS = 40_000;

    public static void main(String[] args) {
        List<List<Long>> edges = new ArrayList<>();
        for (int type = 0; type < 4; type++) {
            edges.add(type < 2 ? wholeEdges(type) : floatingEdges(new Rows(type)));
        }
        for (int operator : Facts.operators()) {
            List<Long> rows = edges.get(Facts.type(operator));
            edges(operator, Facts.operands(operator), rows);
            others(operator, rows);
        }
        CHECK.end();
    }

    private static List<Long> wholeEdges(int type) {
        int width = type == 0 ? 32 : 64;
        List<Long> rows = new ArrayList<>();
        for (int bit = 0; bit < width; bit += bit < 4 || bit > width - 4 ? 1 : 3) {
            long power = 1L << bit;
            for (long near = -1; near <= 1; near++) {
                rows.add(power + near);
                rows.add(-(power + near));
            }
        }
        for (long small = 0; small < 12; small++) {
            rows.add(small);
            rows.add(-small);
        }
        return rows;
    }

    private static List<Long> floatingEdges(Rows r) {
        int[] exponents = {
            0, 1, 2, 3, r.fractionBits, r.fractionBits + 1, r.middle / 2, r.middle - 64, r.middle - r.fractionBits - 2,
            r.middle - r.fractionBits - 1, r.middle - r.fractionBits, r.middle - 2, r.middle - 1, r.middle,
            r.middle + 1, r.middle + 2, r.middle + 7, r.middle + 22, r.middle + 23, r.middle + 24, r.middle + 30,
            r.middle + 31, r.middle + 32, r.middle + 51, r.middle + 52, r.middle + 62, r.middle + 63, r.middle + 64,
            2 * r.middle - 1, 2 * r.middle, 2 * r.middle + 1};
        long all = (1L << r.fractionBits) - 1;
        long[] fractions = {0, 1, 2, all, all - 1, all / 2, all / 2 + 1, all / 3};
        List<Long> rows = new ArrayList<>();
        for (int exponent : exponents) {
            for (long fraction : fractions) {
                rows.add(r.row(exponent, fraction));
                rows.add(r.minus(r.row(exponent, fraction)));
            }
        }
        return rows;
    }

    private static void edges(int operator, int operands, List<Long> rows) {
        for (long x : rows) {
            if (operands == 1) {
                compare(operator, x);
                continue;
            }
            for (long y : rows) {
                compare(operator, x, y);
            }
        }
    }

    private static void others(int operator, List<Long> edges) {
        Random random = new Random(operator);
        int operands = Facts.operands(operator);
        for (int i = 0; i < PAIRS; i++) {
            long x = random.nextLong();
            if (operands == 1) {
                compare(operator, i % 2 == 0 ? x : x >> random.nextInt(64));
            } else {
                compare(operator, x, second(Facts.type(operator), x, random, edges));
            }
        }
    }

    /** Besides any row: an edge, or a row near the first, so that exponents meet and numbers nearly cancel. */
    private static long second(int type, long x, Random random, List<Long> edges) {
        switch (random.nextInt(4)) {
            case 0:
                return random.nextLong();
            case 1:
                return edges.get(random.nextInt(edges.size()));
            case 2:
                return x ^ random.nextLong() >>> random.nextInt(64);
            default:
                long step = (long) random.nextInt(60) << (type == 2 ? 23 : 52);
                return (x + step ^ random.nextLong() >>> 44) ^ (long) random.nextInt(2) << (type == 2 ? 31 : 63);
        }
    }

    private static void compare(int operator, long... operands) {
        int from = Facts.type(operator);
        int to = Facts.resultType(operator);
        Outcome due = Machine.due(operator, from, to, operands[0], operands[operands.length - 1]);
        CHECK.due(Outcome.call(operator, operands), Outcome.of(CHECK, operator, operands), due);
    }
}
