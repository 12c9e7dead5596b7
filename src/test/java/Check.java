/** Counts the answers that are not as due, and ends a test by them. */
final class Check {
    private final String test;
    private int asked;
    private int wrong;

    Check(String test) {
        this.test = test;
    }

    void due(String call, long got, long want) {
        asked++;
        if (got != want) {
            wrong++;
            System.out.println(test + ": " + call + " answered " + got + ", due is " + want);
        }
    }

    boolean isWrong() {
        return wrong > 0;
    }

    void end() {
        System.out.println(test + ": " + asked + " answers, " + wrong + " not as due");
        if (wrong > 0) {
            System.exit(1);
        }
    }

    /** Types a text and takes it as a LIST. */
    static int tell(DullEvenings x, String text) {
        for (int i = 0; i < text.length(); i++) {
            x.type(text.charAt(i));
        }
        return x.list();
    }

    /** A new object that a LIST was told. */
    static DullEvenings told(String text) {
        DullEvenings x = new DullEvenings();
        if (tell(x, text) < 0) {
            throw new AssertionError("the test's own list is refused: " + text);
        }
        return x;
    }
}
