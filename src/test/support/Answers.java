/** Counts and prints the calls whose answer is not the one that is due. */
final class Answers {
    static final long NIL = 1L << 40;
    static final long NONE = -NIL;

    private int wrong = 0;
    private String part = "";

    static long object(int o) {
        return NIL + 1 + o;
    }

    void begin(String part) {
        this.part = part;
    }

    void due(String call, long got, long want) {
        if (got != want) {
            wrong++;
            System.out.println(part + ": " + call + " answered " + got + ", due is " + want);
        }
    }

    boolean anyWrong() {
        return wrong != 0;
    }

    void finish() {
        System.out.println(wrong == 0 ? "all answers are as due" : wrong + " answers are not as due");
        if (wrong != 0) {
            System.exit(1);
        }
    }
}
