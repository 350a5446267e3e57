/** Counts and prints the answers that are not as due. */
final class Check {
    private int wrong;
    private int asked;
    private String sentence = "";

    static long bits(double d) {
        return Double.doubleToLongBits(d);
    }

    static int bits(float f) {
        return Float.floatToIntBits(f);
    }

    /** The document's words that the next answers are due by; a wrong answer is printed with them. */
    void sentence(String words) {
        sentence = "\"" + words + "\": ";
    }

    void due(String call, long got, long want) {
        asked++;
        if (got != want) {
            wrong++;
            System.out.println(sentence + call + " answered " + got + ", due is " + want);
        }
    }

    void due(String call, long got, double want) {
        due(call, got, bits(want));
    }

    void isTrue(String what, boolean holds) {
        due(what, holds ? 1L : 0L, 1L);
    }

    boolean hasWrong() {
        return wrong != 0;
    }

    void end() {
        System.out.println(wrong == 0 ? asked + " answers are as due" : wrong + " answers are not as due");
        if (wrong != 0) {
            System.exit(1);
        }
    }
}
