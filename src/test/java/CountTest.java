/** Promises 17 to 23: counted, sum, ways, see, fits, odds, mean. */
public final class CountTest {
    private static final Due due = new Due("CountTest");
    private static final int[] WRONG = {-1, 5, Integer.MIN_VALUE, Integer.MAX_VALUE};

    public static void main(String[] args) {
        counted();
        sum();
        ways();
        see();
        fits();
        odds();
        mean();
        due.end();
    }

    private static void counted() {
        StairPaths x = new StairPaths();
        due.is("counted(0, 1, 3, 0)", 1, x.counted(0, 1, 3, 0));
        due.is("counted(0, 1, 1, 1)", 1, x.counted(0, 1, 1, 1));
        due.is("counted(0, 1, 0, 0)", 0, x.counted(0, 1, 0, 0));
        due.is("counted(3, 4, 2, 2)", 2, x.counted(3, 4, 2, 2));
        due.is("counted(0, 0, 1, 1)", 2, x.counted(0, 0, 1, 1));
        due.is("counted(0, 0, 1, 2)", 0, x.counted(0, 0, 1, 2));
        due.is("counted, far off", 0, x.counted(0, 1, Integer.MIN_VALUE, Integer.MAX_VALUE));
        due.is("counted, -1", 0, x.counted(0, 1, -1, -1));
        for (int wrong : WRONG) {
            due.is("counted(" + wrong + ", 0, 0, 0)", StairPaths.NONE, x.counted(wrong, 0, 0, 0));
            due.is("counted(0, " + wrong + ", 0, 0)", StairPaths.NONE, x.counted(0, wrong, 0, 0));
        }
        for (int n = 2; n <= 5; n++) {
            x = Stairs.of(n, 0);
            int all = 0;
            for (int v = 0; v <= 10; v++) {
                for (int w = 0; w <= 10; w++) {
                    all += x.counted(0, 1, v, w);
                    due.is("AREA and BOUNCE are alike told", x.counted(0, 1, w, v), x.counted(0, 1, v, w));
                }
            }
            due.is("each PATH is counted once", x.told(1), all);
        }
    }

    private static void sum() {
        StairPaths x = new StairPaths();
        due.is("sum(0, 1, 2, 3)", 71, x.sum(0, 1, 2, 3));
        due.is("sum(0, 1, 1, 1)", 5, x.sum(0, 1, 1, 1));
        due.is("sum(0, 0, 0, 0), 0 to the power of 0", 1, x.sum(0, 0, 0, 0));
        due.is("sum(0, 4, 0, 0)", 0, x.sum(0, 4, 0, 0));
        due.is("sum(0, 1, 0, 2)", 8, x.sum(0, 1, 0, 2));
        due.is("sum(3, 4, -1, 1)", 1, x.sum(3, 4, -1, 1));
        x.size(5);
        due.is("sum(0, 1, 8, 8)", 13103792128L, x.sum(0, 1, 8, 8));
        due.is("sum(0, 0, 8, 8)", 1171512396294676737L, x.sum(0, 0, 8, 8));
        due.is("sum(1, 2, -8, 8)", 1152925431280495553L, x.sum(1, 2, -8, 8));
        for (int wrong : WRONG) {
            due.is("sum(" + wrong + ", 0, 1, 1)", StairPaths.NO, x.sum(wrong, 0, 1, 1));
            due.is("sum(0, " + wrong + ", 1, 1)", StairPaths.NO, x.sum(0, wrong, 1, 1));
        }
        for (int wrong : new int[] {-9, 9, Integer.MIN_VALUE, Integer.MAX_VALUE}) {
            due.is("sum(0, 1, " + wrong + ", 1)", StairPaths.NO, x.sum(0, 1, wrong, 1));
            due.is("sum(0, 1, 1, " + wrong + ")", StairPaths.NO, x.sum(0, 1, 1, wrong));
        }
    }

    private static void ways() {
        StairPaths x = new StairPaths();
        int[] ways = {1, 3, 3, 3, 6};
        for (int path = 0; path < 5; path++) {
            due.is("ways(" + path + ")", ways[path], x.ways(path));
        }
        due.is("ways(5)", StairPaths.NONE, x.ways(5));
        due.is("ways(-2)", StairPaths.NONE, x.ways(-2));
        due.is("ways(MIN)", StairPaths.NONE, x.ways(Integer.MIN_VALUE));
        due.is("ways(MAX)", StairPaths.NONE, x.ways(Integer.MAX_VALUE));
        int[] all = {3, 16, 125, 1296};
        for (int n = 2; n <= 5; n++) {
            x.size(n);
            due.is("ways(-1) of " + n, all[n - 2], x.ways(-1));
        }
        due.is("ways(20)", 60, x.ways(20));
        due.is("ways(41)", 120, x.ways(41));
        due.is("ways(42)", StairPaths.NONE, x.ways(42));
    }

    private static void see() {
        StairPaths x = new StairPaths();
        due.is("see(5, 6)", StairPaths.NONE, x.see(5, 6));
        due.is("see(-2, 1)", StairPaths.NONE, x.see(-2, 1));
        due.is("see(MIN, 1)", StairPaths.NONE, x.see(Integer.MIN_VALUE, 1));
        due.is("see(0, 0)", StairPaths.BAD, x.see(0, 0));
        due.is("see(0, 6)", StairPaths.BAD, x.see(0, 6));
        due.is("see(0, MAX)", StairPaths.BAD, x.see(0, Integer.MAX_VALUE));
        due.is("none", 0, x.count(0));
        due.is("see(4, 5), n 3", 1, x.see(4, 5));
        due.is("see", 2, x.see(0, 1));
        due.is("see, the same", 3, x.see(0, 1));
        due.is("see", 4, x.see(0, 2));
        due.is("see, full", StairPaths.FULL, x.see(0, 2));
        due.is("see(5, 1), full", StairPaths.NONE, x.see(5, 1));
        due.is("see(0, 6), full", StairPaths.BAD, x.see(0, 6));
        due.is("see(-1, 99)", 0, x.see(-1, 99));
        due.is("see anew", 1, x.see(0, 1));
        due.is("count", 1, x.count(0));
    }

    private static void fits() {
        StairPaths x = new StairPaths();
        x.size(5);
        for (int path = 0; path < 42; path++) {
            x.choose(path);
            due.is("FITS of nothing SEEN are the WAYS", x.ways(path), x.fits());
        }
        x.see(0, 5);
        due.is("fits: one seen", 24, x.fits());
        x.see(0, 5);
        due.is("fits: the same again", 24, x.fits());
        x.see(4, 1);
        due.is("fits: two seen", 6, x.fits());
        x.see(4, 2);
        due.is("fits: one STEP with two LABELS", 0, x.fits());
        x.see(-1, 0);
        x.see(0, 5);
        x.see(4, 5);
        due.is("fits: two STEPS with one LABEL", 0, x.fits());
        x.see(-1, 0);
        x.size(3);
        x.choose(1);
        x.see(0, 2);
        due.is("fits nnenee, 2 first", 1, x.fits());
        x.see(-1, 0);
        x.see(0, 3);
        due.is("fits nnenee, 3 first", 0, x.fits());
        x.see(-1, 0);
        x.see(2, 1);
        due.is("fits nnenee, 1 last", 1, x.fits());
        x.see(3, 1);
        due.is("fits: a STEP that there isn't", 0, x.fits());
        x.see(-1, 0);
        x.see(3, 1);
        due.is("fits: a STEP that there isn't, alone", 0, x.fits());
        x.see(-1, 0);
        x.choose(4);
        x.see(0, 4);
        due.is("fits: a LABEL above n", 0, x.fits());
        x.see(-1, 0);
        x.exchange(0, 2);
        due.is("fits whatever LABELS are", 6, x.fits());
    }

    private static void odds() {
        StairPaths x = new StairPaths();
        x.size(5);
        due.is("odds above", 1, x.odds(4, 1, 0));
        due.is("odds below", 3, x.odds(4, 1, 1));
        due.is("odds 0 above", 0, x.odds(0, 11, 0));
        due.is("odds 0 below", 1, x.odds(0, 11, 1));
        due.is("odds of MIN", 0, x.odds(0, Integer.MIN_VALUE, 0));
        due.is("odds of one PATH", 42, x.odds(0, 10, 1));
        due.is("PEAKS 3", 10, x.odds(3, 3, 0));
        due.is("PEAKS 3", 21, x.odds(3, 3, 1));
        x.size(2);
        due.is("odds 1 in 2", 2, x.odds(1, 1, 1));
        for (int wrong : WRONG) {
            due.is("odds(" + wrong + ", 0, 0)", StairPaths.NO, x.odds(wrong, 0, 0));
        }
        for (int wrong : new int[] {-1, 2, Integer.MIN_VALUE, Integer.MAX_VALUE}) {
            due.is("odds(0, 0, " + wrong + ")", StairPaths.NO, x.odds(0, 0, wrong));
            due.is("mean(0, " + wrong + ")", StairPaths.NO, x.mean(0, wrong));
        }
    }

    private static void mean() {
        StairPaths x = new StairPaths();
        due.is("mean AREA above", 7, x.mean(0, 0));
        due.is("mean AREA below", 5, x.mean(0, 1));
        due.is("mean PEAKS above", 2, x.mean(3, 0));
        due.is("mean PEAKS below", 1, x.mean(3, 1));
        due.is("mean TOUCHES above", 9, x.mean(4, 0));
        x.size(5);
        for (int what = 0; what < 3; what++) {
            due.is("mean above " + what, 88, x.mean(what, 0));
            due.is("mean below " + what, 21, x.mean(what, 1));
        }
        for (int wrong : WRONG) {
            due.is("mean(" + wrong + ", 0)", StairPaths.NO, x.mean(wrong, 0));
        }
    }
}
