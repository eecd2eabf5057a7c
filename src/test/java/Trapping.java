/** Applies an operator and tells the exception's name. */
final class Trapping {
    static final String NOTHING = "nothing";

    static String thrown(BitNumbers numbers, int operator) {
        try {
            numbers.apply(operator);
            return NOTHING;
        } catch (RuntimeException e) {
            return e.getClass().getSimpleName();
        }
    }

    private Trapping() {
    }
}
