/** What a test was due and what it got; it tells what is unlike, and ends with exit code 1 if anything was. */
final class Due {
    private final String test;
    private String sentence = "";
    private int sentences = 0;
    private int checked = 0;
    private int wrong = 0;

    Due(String test) {
        this.test = test;
    }

    /** The test of one sentence of the document, in the document's words: what is wrong in it is told with them. */
    void sentence(String words, Runnable check) {
        int before = checked;
        sentence = " <" + words + ">";
        sentences++;
        try {
            check.run();
        } catch (RuntimeException thrown) {
            holds("no call throws, but " + thrown, false);
        }
        if (checked == before) {
            holds("something is checked", false);
        }
        sentence = "";
    }

    void is(String call, long want, long got) {
        checked++;
        if (got != want) {
            wrong++;
            System.out.println(test + sentence + ": " + call + " answered " + got + ", due is " + want);
        }
    }

    void is(String what, String want, String got) {
        checked++;
        if (!got.equals(want)) {
            wrong++;
            System.out.println(test + sentence + ": " + what + " is " + got + ", due is " + want);
        }
    }

    void holds(String what, boolean so) {
        checked++;
        if (!so) {
            wrong++;
            System.out.println(test + sentence + ": not so: " + what);
        }
    }

    void end() {
        String ofSentences = sentences == 0 ? "" : sentences + " sentences, ";
        System.out.println(test + ": " + ofSentences + checked + " checked, " + wrong + " wrong");
        if (wrong != 0 || checked == 0) {
            System.exit(1);
        }
    }
}
