/** Floating values of one type, made from their parts as the document's 'Terms' tell them. */
final class Rows {
    final int type;
    final int fractionBits;
    final int middle;
    final long signBit;
    final long one;
    final long infinite;
    final long none;
    final long smallest;
    final long greatestSmall;
    final long leastOther;
    final long greatest;

    Rows(int type) {
        this.type = type;
        fractionBits = type == 2 ? 23 : 52;
        middle = type == 2 ? 127 : 1023;
        signBit = type == 2 ? 0x80000000L : 0x8000000000000000L;
        one = row(middle, 0);
        infinite = type == 2 ? 0x7F800000L : 0x7FF0000000000000L;
        none = type == 2 ? 0x7FC00000L : 0x7FF8000000000000L;
        smallest = 1;
        greatestSmall = type == 2 ? 0x007FFFFFL : 0x000FFFFFFFFFFFFFL;
        leastOther = type == 2 ? 0x00800000L : 0x0010000000000000L;
        greatest = type == 2 ? 0x7F7FFFFFL : 0x7FEFFFFFFFFFFFFFL;
    }

    long row(int exponent, long fraction) {
        return (long) exponent << fractionBits | fraction;
    }

    /** 2 ^ power, for an e that is not 0. */
    long power(int power) {
        return row(middle + power, 0);
    }

    long minus(long row) {
        return row ^ signBit;
    }

    long number(double number) {
        return type == 2
            ? Float.floatToRawIntBits((float) number) & 0xFFFFFFFFL
            : Double.doubleToRawLongBits(number);
    }

    /** NONES with and without sign, with other fractions than THE NONE's too. */
    long[] nones() {
        return new long[] {none, minus(none), infinite + 1, minus(infinite + 1), none + 5, minus(none - 1)};
    }
}
