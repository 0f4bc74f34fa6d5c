/** What a test was due and what it got; it tells what is unlike, and ends with exit code 1 if anything was. */
final class Due {
    private final String test;
    private int checked = 0;
    private int wrong = 0;

    Due(String test) {
        this.test = test;
    }

    void is(String call, long want, long got) {
        checked++;
        if (got != want) {
            wrong++;
            System.out.println(test + ": " + call + " answered " + got + ", due is " + want);
        }
    }

    void holds(String what, boolean so) {
        checked++;
        if (!so) {
            wrong++;
            System.out.println(test + ": not so: " + what);
        }
    }

    void end() {
        System.out.println(test + ": " + checked + " checked, " + wrong + " wrong");
        if (wrong != 0 || checked == 0) {
            System.exit(1);
        }
    }
}
