/** Counts the answers that are not as due; a test ends with end(). */
final class Due {
    static final long BAD = -9000000000000000001L, NO = -9000000000000000002L, FULL = -9000000000000000003L,
            NONE = -9000000000000000005L, NOTHING = -9000000000000000011L, INDEX = -9000000000000000013L,
            SIZE = -9000000000000000014L;
    /** Numbers that no small argument may be. */
    static final int[] WILD = {-1, -2, 1000, Integer.MIN_VALUE, Integer.MAX_VALUE, 1 << 16, 1 << 31};

    private int asked;
    private int wrong;
    private String sentence = "";

    /** The words of the document that the next answers are about; they are told with an answer that is not as due. */
    void says(String words) {
        sentence = words;
    }

    void due(String call, long got, long want) {
        asked++;
        if (got != want) {
            wrong++;
            System.out.println(call + " answered " + got + ", due is " + want + told());
        }
    }

    /** For what is no single answer: whether it holds. */
    void holds(String text, boolean yes) {
        asked++;
        if (!yes) {
            wrong++;
            System.out.println(text + told());
        }
    }

    private String told() {
        return sentence.isEmpty() ? "" : "  (\"" + sentence + "\")";
    }

    void end(String test) {
        System.out.println(test + ": " + asked + " answers, " + wrong + " wrong");
        if (wrong != 0 || asked == 0) {
            System.exit(1);
        }
    }
}
