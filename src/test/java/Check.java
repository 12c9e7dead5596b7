/** Counts the answers that are not as due, and ends a test by them. */
final class Check {
    private final String test;
    private String sentence = "";
    private int sentences;
    private int asked;
    private int wrong;

    Check(String test) {
        this.test = test;
    }

    /** What follows holds this sentence of the document; it is told with each wrong answer. */
    void sentence(String words) {
        sentence = " [" + words + "]";
        sentences++;
    }

    void due(String call, long got, long want) {
        asked++;
        if (got != want) {
            wrong++;
            System.out.println(test + ":" + sentence + " " + call + " answered " + got + ", due is " + want);
        }
    }

    boolean isWrong() {
        return wrong > 0;
    }

    void end() {
        String held = sentences > 0 ? sentences + " sentences, " : "";
        System.out.println(test + ": " + held + asked + " answers, " + wrong + " not as due");
        if (wrong > 0) {
            System.exit(1);
        }
    }

    /** Types a text and takes it as a LIST. */
    static int tell(DullEvenings x, String text) {
        for (int i = 0; i < text.length(); i++) {
            x.type(text.charAt(i));
        }
        return x.list();
    }

    /** A new object that a LIST was told. */
    static DullEvenings told(String text) {
        DullEvenings x = new DullEvenings();
        if (tell(x, text) < 0) {
            throw new AssertionError("the test's own list is refused: " + text);
        }
        return x;
    }

    /** A new object with one hearer and one teller in EVENING 9999, made by 252 calls. */
    static DullEvenings inTheLastEvening(int most, int kind, int lasts) {
        DullEvenings x = new DullEvenings();
        x.hearer(most);
        x.teller(kind, lasts);
        for (int i = 0; i < 249; i++) {
            x.evenings(40);
        }
        x.evenings(39);
        if (x.count(3) != 9999) {
            throw new AssertionError("the last evening is not reached");
        }
        return x;
    }
}
