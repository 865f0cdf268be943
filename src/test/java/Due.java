/** Counts the answers that are not as due, and ends a test with exit code 1 if there was one. */
final class Due {
    private int wrong = 0;
    private String sentence = "";

    /** The answers that follow show whether this sentence of the document holds. */
    void sentence(String words) {
        sentence = "\"" + words + "\": ";
    }

    void is(String what, long got, long want) {
        if (got != want) {
            wrong++;
            System.out.println(sentence + what + " answered " + got + ", due is " + want);
        }
    }

    void is(String what, boolean got, boolean want) {
        is(what, got ? 1L : 0L, want ? 1L : 0L);
    }

    void end() {
        System.out.println(wrong == 0 ? "all answers are as due" : wrong + " answers are not as due");
        if (wrong != 0) {
            System.exit(1);
        }
    }
}
