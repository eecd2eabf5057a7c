/** Promise 4, with the 'Terms' on 168 .. 177 and 200 .. 207: the least and the greatest numbers there are. */
final class Promise04ConversionTest {
    private static final Check CHECK = new Check("Promise04ConversionTest");
    private static final Applied APPLIED = new Applied(CHECK);
    private static final int TRAP_NOT_THERE = 2;
    private static final int TRAP_NONE = 3;

    /** From which type, to how many bits, whether with sign, and by which operator, with a TRAP or bounded. */
    private record Target(Rows r, int width, boolean signed, int trapping, int bounded) {
        private static Target of(int trapping, int bounded) {
            int width = Facts.resultType(trapping) == 0 ? 32 : 64;
            return new Target(new Rows(Facts.type(trapping)), width, trapping % 2 == 0, trapping, bounded);
        }

        private long least() {
            return signed ? 1L << (width - 1) : 0;
        }

        private long greatest() {
            return -1L >>> (64 - width + (signed ? 1 : 0));
        }

        /** The value of the floating type that is 1 above the greatest number. */
        private long tooGreat() {
            return r.power(signed ? width - 1 : width);
        }

        /** Whether the value can hold each whole number there is, and fractions behind it. */
        private boolean isFine() {
            return r.fractionBits >= width;
        }

        private String of() {
            return " (" + trapping + " and " + bounded + ")";
        }
    }

    public static void main(String[] args) {
        Target[] targets = {
            Target.of(168, 200), Target.of(169, 201), Target.of(170, 202), Target.of(171, 203),
            Target.of(174, 204), Target.of(175, 205), Target.of(176, 206), Target.of(177, 207)};
        for (Target target : targets) {
            towardsZero(target);
            leastAndGreatest(target);
            tooGreatAndTooSmall(target);
            infinite(target);
            none(target);
        }
        sameBits();
        CHECK.end();
    }

    private static void isThere(Target t, long bits, long x) {
        APPLIED.gives(t.trapping, bits, x);
        APPLIED.gives(t.bounded, bits, x);
    }

    private static void isNotThere(Target t, int trap, long bits, long x) {
        APPLIED.traps(t.trapping, trap, x);
        APPLIED.gives(t.bounded, bits, x);
    }

    private static void towardsZero(Target t) {
        CHECK.sentence(4,
            "168 .. 171 .. with and without sign ..: towards 0. .. 174 .. 177 .. like 168 .. 171." + t.of());
        Rows r = t.r;
        for (int whole = 0; whole <= 5; whole++) {
            isThere(t, whole, r.number(whole));
            isThere(t, whole, r.number(whole + 0.5));
            isThere(t, whole, r.number(whole + 1) - 1);
            if (t.signed) {
                isThere(t, -whole, r.minus(r.number(whole)));
                isThere(t, -whole, r.minus(r.number(whole + 0.5)));
                isThere(t, -whole, r.minus(r.number(whole + 1) - 1));
            }
        }
        long[] belowOne = {
            0, r.smallest, r.greatestSmall, r.leastOther, r.power(-65), r.power(-64), r.power(-1), r.one - 1};
        for (long row : belowOne) {
            isThere(t, 0, row);
            isThere(t, 0, r.minus(row));
        }
        for (int power = 0; power < (t.signed ? t.width - 1 : t.width); power++) {
            isThere(t, 1L << power, r.power(power));
            if (t.signed) {
                isThere(t, -(1L << power), r.minus(r.power(power)));
            }
        }
    }

    private static void leastAndGreatest(Target t) {
        CHECK.sentence(4, "a number that, towards 0, is (.. or) is not there (the least, the greatest)" + t.of());
        Rows r = t.r;
        // The step between values just below the one that is too great; within 1 of it all are the greatest.
        int step = (t.signed ? t.width - 1 : t.width) - r.fractionBits - 1;
        isThere(t, step > 0 ? t.greatest() - (1L << step) + 1 : t.greatest(), t.tooGreat() - 1);
        isNotThere(t, TRAP_NOT_THERE, t.greatest(), t.tooGreat());
        isNotThere(t, TRAP_NOT_THERE, t.greatest(), t.tooGreat() + 1);
        if (t.isFine()) {
            isThere(t, t.greatest(), r.number(t.greatest()));
            isThere(t, t.greatest() - 1, r.number(t.greatest()) - 1);
        }
        if (!t.signed) {
            isThere(t, 0, r.minus(0));
            isThere(t, 0, r.minus(r.one - 1));
            isNotThere(t, TRAP_NOT_THERE, 0, r.minus(r.one));
            isNotThere(t, TRAP_NOT_THERE, 0, r.minus(r.one + 1));
            return;
        }
        isThere(t, t.least(), r.minus(t.tooGreat()));
        if (t.isFine()) {
            long belowLeast = r.number(-(double) (t.greatest() + 2));
            isThere(t, t.least(), r.minus(t.tooGreat() + 1));
            isThere(t, t.least(), belowLeast - 1);
            isNotThere(t, TRAP_NOT_THERE, t.least(), belowLeast);
            isNotThere(t, TRAP_NOT_THERE, t.least(), belowLeast + 1);
        } else {
            isNotThere(t, TRAP_NOT_THERE, t.least(), r.minus(t.tooGreat() + 1));
        }
    }

    private static void tooGreatAndTooSmall(Target t) {
        CHECK.sentence(4, "what would be a TRAP is .. the least or greatest number there is." + t.of());
        Rows r = t.r;
        long[] rows = {t.tooGreat(), r.power(64), r.power(65), r.power(100), r.power(r.middle), r.greatest};
        for (long row : rows) {
            isNotThere(t, TRAP_NOT_THERE, t.greatest(), row);
            if (row > t.tooGreat()) {
                isNotThere(t, TRAP_NOT_THERE, t.least(), r.minus(row));
            }
        }
    }

    private static void infinite(Target t) {
        CHECK.sentence(4, "or of INFINITE .. otherwise the least or greatest number there is." + t.of());
        isNotThere(t, TRAP_NOT_THERE, t.greatest(), t.r.infinite);
        isNotThere(t, TRAP_NOT_THERE, t.least(), t.r.minus(t.r.infinite));
    }

    private static void none(Target t) {
        CHECK.sentence(4, "what would be a TRAP is 0 for NONE" + t.of());
        for (long none : t.r.nones()) {
            isNotThere(t, TRAP_NONE, 0, none);
        }
        isNotThere(t, TRAP_NONE, 0, t.r.signBit - 1);
        isNotThere(t, TRAP_NONE, 0, t.r.minus(t.r.signBit - 1));
    }

    private static void sameBits() {
        CHECK.sentence(4, "188 .. 191 the same bits: to type 0 from 2, to 1 from 3, to 2 from 0, to 3 from 1.");
        for (long bits : Edges.LONGS) {
            APPLIED.gives(188, bits & 0xFFFFFFFFL, bits);
            APPLIED.gives(189, bits, bits);
            APPLIED.gives(190, bits & 0xFFFFFFFFL, bits);
            APPLIED.gives(191, bits, bits);
        }
        for (long none : new Rows(2).nones()) {
            APPLIED.gives(188, none, none);
            APPLIED.gives(190, none, none);
        }
        for (long none : new Rows(3).nones()) {
            APPLIED.gives(189, none, none);
            APPLIED.gives(191, none, none);
        }
    }
}
