/** Counts and prints the answers that are not the ones that are due. */
final class Due {
    private final String name;
    private String sentence = "";
    private int wrong = 0;
    private int asked = 0;

    Due(String name) {
        this.name = name;
    }

    /**
     * Which sentence of the document the next answers are due by. SentencesTest looks through the
     * tests for these calls, so both texts stand in them as they are in the document.
     */
    void says(String where, String words) {
        sentence = " [" + where + ": " + words + "]";
    }

    void is(String call, long got, long want) {
        asked++;
        if (got != want) {
            wrong++;
            System.out.println(name + ": " + call + " answered " + got + ", due is " + want + sentence);
        }
    }

    void holds(String what, boolean right) {
        asked++;
        if (!right) {
            wrong++;
            System.out.println(name + ": not so: " + what + sentence);
        }
    }

    void end() {
        System.out.println(name + ": " + asked + " asked, " + wrong + " wrong");
        if (wrong != 0) {
            System.exit(1);
        }
    }
}
