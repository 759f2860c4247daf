/** Compares answers, prints those that are not due, and ends the program with 1 if there was one. */
final class Check {
    private String sentence = "";
    private int right = 0;
    private int wrong = 0;

    /** The words of the document that the answers from here on are held against. */
    void sentence(String words) {
        sentence = "\"" + words + "\": ";
    }

    void due(String call, long got, long want) {
        if (got == want) {
            right++;
        } else {
            wrong++;
            System.out.println(sentence + call + " answered " + got + ", due is " + want);
        }
    }

    /** A double by its bits; 0.0 and -0.0 are two. */
    void dueDouble(String call, long got, double want) {
        due(call + " as bits", got, bits(want));
    }

    static long bits(double number) {
        return Double.doubleToLongBits(number);
    }

    /** What is null for a part that only speaks up when something is wrong. */
    void finish(String what) {
        if (what != null || wrong > 0) System.out.println(what + ": " + right + " answers as due, " + wrong + " not");
        if (wrong > 0 || right == 0) System.exit(1);
    }
}
