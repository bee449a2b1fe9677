/** Counts the answers that are not as due; a test ends with end(). */
final class Due {
    static final long BAD = -9000000000000000001L, NO = -9000000000000000002L, FULL = -9000000000000000003L,
            NONE = -9000000000000000005L, NOTHING = -9000000000000000011L, INDEX = -9000000000000000013L,
            SIZE = -9000000000000000014L;
    /** Numbers that no small argument may be. */
    static final int[] WILD = {-1, -2, 1000, Integer.MIN_VALUE, Integer.MAX_VALUE, 1 << 16, 1 << 31};

    private int asked;
    private int wrong;

    void due(String call, long got, long want) {
        asked++;
        if (got != want) {
            wrong++;
            System.out.println(call + " answered " + got + ", due is " + want);
        }
    }

    void end(String test) {
        System.out.println(test + ": " + asked + " answers, " + wrong + " wrong");
        if (wrong != 0 || asked == 0) {
            System.exit(1);
        }
    }
}
