/** Boundary cases of promises 17 to 23: a test for each sentence of the document that names one. */
public final class EdgeCountsTest {
    private static final Due due = new Due("EdgeCountsTest");
    private static final int[] NO_STATISTICS = {-1, 5, -2, 256, Stairs.MIN, Stairs.MAX};
    private static final int[] NO_PARTS = {-1, 2, 256, Stairs.MIN, Stairs.MAX};

    public static void main(String[] args) {
        countedAndSum();
        ways();
        see();
        fits();
        oddsAndMean();
        due.end();
    }

    private static void countedAndSum() {
        due.sentence("how many PATHS have just these", EdgeCountsTest::countedNone);
        due.sentence("how many PATHS have just these", EdgeCountsTest::countedByOneTwice);
        due.sentence("how many PATHS have just these", EdgeCountsTest::countedLeastAndGreatest);
        due.sentence("COUNTED by statistics a, b and numbers v, w. NONE: a, b.", EdgeCountsTest::countedByNoStatistic);
        due.sentence("SUM in q, t (-8 .. 8 each) of two statistics", EdgeCountsTest::sumOfLeastAndGreatest);
        due.sentence("(any number to the power of 0 is 1)", EdgeCountsTest::toThePowerOfNothing);
        due.sentence("0 to the power of 0 is 1.", EdgeCountsTest::nothingToThePowerOfNothing);
        due.sentence("SUM of statistics a, b. NO: a, b, q, t.", EdgeCountsTest::sumOfNoStatistic);
        due.sentence("SUM of statistics a, b. NO: a, b, q, t.", EdgeCountsTest::sumBelow);
        due.sentence("SUM of statistics a, b. NO: a, b, q, t.", EdgeCountsTest::sumAbove);
    }

    private static void ways() {
        due.sentence("WAYS of a PATH; of -1: of all PATHS, together. NONE: path.", EdgeCountsTest::waysOfAll);
        due.sentence("WAYS of a PATH; of -1: of all PATHS, together. NONE: path.", EdgeCountsTest::waysOfFirstAndLast);
        due.sentence("WAYS of a PATH; of -1: of all PATHS, together. NONE: path.", EdgeCountsTest::waysBelow);
        due.sentence("WAYS of a PATH; of -1: of all PATHS, together. NONE: path.", EdgeCountsTest::waysBehind);
    }

    private static void see() {
        due.sentence("NONE: i (0 .. 4); BAD: label (1 .. 5); FULL: 4.", EdgeCountsTest::seeFirstAndLast);
        due.sentence("NONE: i (0 .. 4); BAD: label (1 .. 5); FULL: 4.", EdgeCountsTest::seeStepBelow);
        due.sentence("NONE: i (0 .. 4); BAD: label (1 .. 5); FULL: 4.", EdgeCountsTest::seeStepAbove);
        due.sentence("NONE: i (0 .. 4); BAD: label (1 .. 5); FULL: 4.", EdgeCountsTest::seeLabelBelow);
        due.sentence("NONE: i (0 .. 4); BAD: label (1 .. 5); FULL: 4.", EdgeCountsTest::seeLabelAbove);
        due.sentence("its LABEL (4 rows at most)", EdgeCountsTest::seeFull);
        due.sentence("(i -1: none then, 0, whatever the rest is)", EdgeCountsTest::seeNoneThen);
        due.sentence("NONE: i (0 .. 4); BAD: label (1 .. 5); FULL: 4.", EdgeCountsTest::seeInTheirOrder);
    }

    private static void fits() {
        due.sentence("how many WAYS there are to tell LABELS of CHOSEN well by which all of SEEN is so",
            EdgeCountsTest::fitsOfNothingSeen);
        due.sentence("how many WAYS there are to tell LABELS of CHOSEN well by which all of SEEN is so",
            EdgeCountsTest::fitsOfAllSeen);
        due.sentence("(of a STEP that there isn't it isn't)", EdgeCountsTest::fitsOfNoStep);
        due.sentence("FITS is 0 by a STEP that there is not, by a LABEL above n and by one STEP with two LABELS.",
            EdgeCountsTest::fitsOfNoStep);
        due.sentence("by a LABEL above n and by one STEP with two LABELS", EdgeCountsTest::fitsOfLabelAboveN);
        due.sentence("by a LABEL above n and by one STEP with two LABELS", EdgeCountsTest::fitsOfTwoLabels);
        due.sentence("unlike numbers 1 .. n", EdgeCountsTest::fitsOfTwoSteps);
        due.sentence("how many WAYS there are to tell LABELS of CHOSEN well", EdgeCountsTest::fitsWithinARun);
        due.sentence("SEEN told by hand: a STEP n i, its LABEL", EdgeCountsTest::fitsOfOneRowTwice);
        due.sentence("SEEN, EVENTS, the BOOK and THE TEXT stay behind size.", EdgeCountsTest::fitsBehindSize);
    }

    private static void oddsAndMean() {
        due.sentence("PATHS being alike likely, how likely it is v: a fraction in lowest terms",
            EdgeCountsTest::oddsOfNone);
        due.sentence("PATHS being alike likely, how likely it is v: a fraction in lowest terms",
            EdgeCountsTest::oddsOfOne);
        due.sentence("PATHS being alike likely, how likely it is v: a fraction in lowest terms",
            EdgeCountsTest::oddsInLowestTerms);
        due.sentence("ODDS; part 0 above, 1 below the line. NO: what (a statistic), part.", EdgeCountsTest::oddsOfNoStatistic);
        due.sentence("ODDS; part 0 above, 1 below the line. NO: what (a statistic), part.", EdgeCountsTest::oddsOfNoPart);
        due.sentence("MEAN of a statistic over all PATHS: a fraction in lowest terms.", EdgeCountsTest::meanThatIsWhole);
        due.sentence("MEAN of a statistic over all PATHS: a fraction in lowest terms.", EdgeCountsTest::meanInLowestTerms);
        due.sentence("MEAN; part likewise. NO: what, part.", EdgeCountsTest::meanOfNoStatistic);
        due.sentence("MEAN; part likewise. NO: what, part.", EdgeCountsTest::meanOfNoPart);
    }

    // ---- counted, sum

    private static void countedNone() {
        StairPaths x = Stairs.of(5, 0);
        due.is("AREA 10 and BOUNCE 10", 0, x.counted(0, 1, 10, 10));
        due.is("AREA 11", 0, x.counted(0, 0, 11, 11));
        due.is("AREA -1", 0, x.counted(0, 0, -1, -1));
        due.is("PEAKS 0", 0, x.counted(3, 3, 0, 0));
        due.is("PEAKS 6", 0, x.counted(3, 3, 6, 6));
        due.is("TOUCHES 0", 0, x.counted(4, 4, 0, 0));
        due.is("MIN and MAX", 0, x.counted(0, 1, Stairs.MIN, Stairs.MAX));
        due.is("AREA 0 and 256 more", 0, x.counted(0, 0, 256, 256));
    }

    private static void countedByOneTwice() {
        StairPaths x = Stairs.of(3, 0);
        for (int what = 0; what < 5; what++) {
            due.is("statistic " + what + " like 1 and 2", 0, x.counted(what, what, 1, 2));
            due.is("statistic " + what + " like 1 twice", what == 3 ? 1 : 2, x.counted(what, what, 1, 1));
        }
    }

    private static void countedLeastAndGreatest() {
        for (int n = 2; n <= 5; n++) {
            StairPaths x = Stairs.of(n, 0);
            int most = n * (n - 1) / 2;
            due.is("the greatest AREA", 1, x.counted(0, 1, most, 0));
            due.is("the greatest BOUNCE", 1, x.counted(0, 1, 0, most));
            due.is("the greatest TWOS", 1, x.counted(2, 0, most, 0));
            due.is("the least TWOS", 1, x.counted(2, 0, 0, most));
            due.is("the most PEAKS", 1, x.counted(3, 4, n, n));
            due.is("the fewest PEAKS", 1, x.counted(3, 4, 1, 1));
        }
    }

    private static void countedByNoStatistic() {
        StairPaths x = Stairs.of(5, 0);
        for (int wrong : NO_STATISTICS) {
            due.is("counted(" + wrong + ", 0, ..)", StairPaths.NONE, x.counted(wrong, 0, 0, 0));
            due.is("counted(4, " + wrong + ", ..)", StairPaths.NONE, x.counted(4, wrong, 0, 0));
            due.is("counted, both", StairPaths.NONE, x.counted(wrong, wrong, -1, -1));
        }
    }

    private static void sumOfLeastAndGreatest() {
        StairPaths x = Stairs.of(2, 0);
        due.is("sum(0, 1, 8, 8)", 16, x.sum(0, 1, 8, 8));
        due.is("sum(0, 1, -8, -8)", -16, x.sum(0, 1, -8, -8));
        due.is("sum(0, 1, 8, -8)", 0, x.sum(0, 1, 8, -8));
        due.is("sum(4, 3, 8, 8)", 64 + 4096, x.sum(4, 3, 8, 8));
        due.is("sum(4, 3, -8, 8)", -64 + 4096, x.sum(4, 3, -8, 8));
        x.size(5);
        due.is("the greatest", 1171512396294676737L, x.sum(0, 0, 8, 8));
        due.is("the greatest of -8", 1171512396294676737L, x.sum(0, 0, -8, -8));
        due.is("of 8 and -8", x.sum(0, 0, -8, 8), x.sum(0, 0, 8, -8));
    }

    private static void toThePowerOfNothing() {
        for (int n = 2; n <= 5; n++) {
            StairPaths x = Stairs.of(n, 0);
            for (int q : new int[] {-8, -1, 0, 1, 8}) {
                due.is("TWOS to " + q + ", of 0 in the other: PATH 0 alone", 1, x.sum(2, 2, q, 0));
            }
            due.is("sum(0, 1, 1, 1)", Stairs.lastPath(n) + 1, x.sum(0, 1, 1, 1));
        }
        due.is("AREA 0 to the power of -8 and BOUNCE 1 to that of 1", -7, Stairs.of(2, 0).sum(0, 1, -8, 1));
    }

    private static void nothingToThePowerOfNothing() {
        for (int n = 2; n <= 5; n++) {
            StairPaths x = Stairs.of(n, 0);
            due.is("AREA and AREA: the last PATH alone has 0", 1, x.sum(0, 0, 0, 0));
            due.is("AREA to 0, 1 to BOUNCE", 1, x.sum(0, 1, 0, 1));
            due.is("1 to AREA, BOUNCE to 0", 1, x.sum(0, 1, 1, 0));
            due.is("AREA and BOUNCE: none has 0 of both", 0, x.sum(0, 1, 0, 0));
            due.is("PEAKS: none has 0", 0, x.sum(3, 3, 0, 0));
            due.is("TOUCHES: none has 0", 0, x.sum(4, 0, 0, 8));
        }
    }

    private static void sumOfNoStatistic() {
        StairPaths x = Stairs.of(5, 0);
        for (int wrong : NO_STATISTICS) {
            due.is("sum(" + wrong + ", 0, 1, 1)", StairPaths.NO, x.sum(wrong, 0, 1, 1));
            due.is("sum(4, " + wrong + ", 1, 1)", StairPaths.NO, x.sum(4, wrong, 1, 1));
        }
    }

    private static void sumBelow() {
        StairPaths x = Stairs.of(5, 0);
        for (int wrong : new int[] {-9, -10, Stairs.MIN}) {
            due.is("sum(0, 1, " + wrong + ", 1)", StairPaths.NO, x.sum(0, 1, wrong, 1));
            due.is("sum(0, 1, 1, " + wrong + ")", StairPaths.NO, x.sum(0, 1, 1, wrong));
        }
    }

    private static void sumAbove() {
        StairPaths x = Stairs.of(5, 0);
        for (int wrong : new int[] {9, 10, 256, Stairs.MAX}) {
            due.is("sum(0, 1, " + wrong + ", 1)", StairPaths.NO, x.sum(0, 1, wrong, 1));
            due.is("sum(0, 1, 1, " + wrong + ")", StairPaths.NO, x.sum(0, 1, 1, wrong));
        }
    }

    // ---- ways

    private static void waysOfAll() {
        int[] all = {3, 16, 125, 1296};
        for (int n = 2; n <= 5; n++) {
            StairPaths x = Stairs.of(n, 1);
            due.is("ways(-1)", all[n - 2], x.ways(-1));
            int together = 0;
            for (int path = 0; path <= Stairs.lastPath(n); path++) {
                together += x.ways(path);
            }
            due.is("of all PATHS, together", all[n - 2], together);
        }
    }

    private static void waysOfFirstAndLast() {
        int[] most = {2, 6, 24, 120};
        for (int n = 2; n <= 5; n++) {
            StairPaths x = Stairs.of(n, 1);
            due.is("ways(0)", 1, x.ways(0));
            due.is("ways of the last", most[n - 2], x.ways(Stairs.lastPath(n)));
        }
    }

    private static void waysBelow() {
        StairPaths x = Stairs.of(5, 0);
        for (int path : new int[] {-2, -3, Stairs.MIN, Stairs.MIN + 1}) {
            due.is("ways(" + path + ")", StairPaths.NONE, x.ways(path));
        }
    }

    private static void waysBehind() {
        for (int n = 2; n <= 5; n++) {
            StairPaths x = Stairs.of(5, 41);
            x.size(n);
            due.is("ways of the first that there isn't", StairPaths.NONE, x.ways(Stairs.lastPath(n) + 1));
            due.is("ways(42)", StairPaths.NONE, x.ways(42));
            due.is("ways(MAX)", StairPaths.NONE, x.ways(Stairs.MAX));
        }
    }

    // ---- see

    private static void seeFirstAndLast() {
        StairPaths x = Stairs.of(2, 0);
        due.is("see(0, 1)", 1, x.see(0, 1));
        due.is("see(4, 5), whatever n is", 2, x.see(4, 5));
        due.is("see(0, 5)", 3, x.see(0, 5));
        due.is("see(4, 1)", 4, x.see(4, 1));
        due.is("how many", 4, x.count(0));
    }

    private static void seeStepBelow() {
        StairPaths x = Stairs.of(5, 41);
        x.see(0, 1);
        for (int i : new int[] {-2, -3, Stairs.MIN}) {
            due.is("see(" + i + ", 1)", StairPaths.NONE, x.see(i, 1));
        }
        due.is("how many", 1, x.count(0));
        due.is("FITS", 24, x.fits());
    }

    private static void seeStepAbove() {
        StairPaths x = Stairs.of(5, 41);
        x.see(0, 1);
        for (int i : new int[] {5, 6, 256, Stairs.MAX}) {
            due.is("see(" + i + ", 1)", StairPaths.NONE, x.see(i, 1));
        }
        due.is("how many", 1, x.count(0));
        due.is("FITS", 24, x.fits());
    }

    private static void seeLabelBelow() {
        StairPaths x = Stairs.of(5, 41);
        for (int label : new int[] {0, -1, Stairs.MIN}) {
            due.is("see(0, " + label + ")", StairPaths.BAD, x.see(0, label));
        }
        due.is("how many", 0, x.count(0));
        due.is("FITS", 120, x.fits());
    }

    private static void seeLabelAbove() {
        StairPaths x = Stairs.of(5, 41);
        for (int label : new int[] {6, 7, 257, Stairs.MAX}) {
            due.is("see(0, " + label + ")", StairPaths.BAD, x.see(0, label));
        }
        due.is("how many", 0, x.count(0));
        due.is("FITS", 120, x.fits());
    }

    private static void seeFull() {
        StairPaths x = Stairs.of(5, 41);
        for (int i = 0; i < 4; i++) {
            due.is("see, row " + i, i + 1, x.see(i, i + 1));
        }
        due.is("FITS of four", 1, x.fits());
        due.is("see, a fifth row", StairPaths.FULL, x.see(4, 1));
        due.is("see, a fifth row that is there", StairPaths.FULL, x.see(0, 1));
        due.is("how many", 4, x.count(0));
        due.is("FITS, the fifth has not come", 1, x.fits());
    }

    private static void seeNoneThen() {
        for (int label : new int[] {0, 1, -1, 6, Stairs.MIN, Stairs.MAX}) {
            StairPaths x = Stairs.of(5, 41);
            due.is("see(-1, " + label + ") of none", 0, x.see(-1, label));
            x.see(0, 1);
            due.is("see(-1, " + label + ") of one", 0, x.see(-1, label));
            due.is("FITS of none", 120, x.fits());
            for (int k = 0; k < 4; k++) {
                due.is("see", k + 1, x.see(1, 2));
            }
            due.is("see(-1, " + label + ") of four", 0, x.see(-1, label));
            due.is("how many", 0, x.count(0));
            due.is("see then", 1, x.see(0, 1));
            due.is("FITS of one", 24, x.fits());
        }
    }

    private static void seeInTheirOrder() {
        StairPaths x = Stairs.of(5, 41);
        due.is("see(5, 0)", StairPaths.NONE, x.see(5, 0));
        due.is("see(-2, 6)", StairPaths.NONE, x.see(-2, 6));
        for (int k = 0; k < 4; k++) {
            x.see(k, 1);
        }
        due.is("see(5, 0) when full", StairPaths.NONE, x.see(5, 0));
        due.is("see(5, 1) when full", StairPaths.NONE, x.see(5, 1));
        due.is("see(0, 0) when full", StairPaths.BAD, x.see(0, 0));
        due.is("see(0, 1) when full", StairPaths.FULL, x.see(0, 1));
    }

    // ---- fits

    private static StairPaths seen(String word, int... rows) {
        StairPaths x = Stairs.of(word);
        for (int k = 0; k < rows.length; k += 2) {
            x.see(rows[k], rows[k + 1]);
        }
        return x;
    }

    private static void fitsOfNothingSeen() {
        for (int n = 2; n <= 5; n++) {
            for (int path = 0; path <= Stairs.lastPath(n); path++) {
                StairPaths x = Stairs.of(n, path);
                due.is("FITS of PATH " + path, x.ways(path), x.fits());
            }
        }
        StairPaths x = Stairs.of("nenene", "321");
        due.is("FITS by other LABELS", 6, x.fits());
        due.is("FITS while LABELS aren't told well", 1, Stairs.of("nnneee", "321").fits());
    }

    private static void fitsOfAllSeen() {
        due.is("FITS of all LABELS but one", 1, seen("nenenenene", 0, 5, 1, 4, 2, 3, 3, 2).fits());
        due.is("FITS of the one way", 1, seen("nnneee", 0, 1, 1, 2, 2, 3).fits());
        due.is("FITS of what isn't told well", 0, seen("nnneee", 0, 2, 1, 1).fits());
        due.is("FITS of the first alone, that can't be so", 0, seen("nnneee", 0, 2).fits());
        due.is("FITS of the last alone, that can't be so", 0, seen("nnneee", 2, 1).fits());
        due.is("FITS of the first of two runs each", 4, seen("nnenneeene", 0, 3, 2, 1).fits());
    }

    private static void fitsOfNoStep() {
        String[] words = {"nene", "nenene", "nenenene"};
        for (int n = 2; n <= 4; n++) {
            for (int i = n; i <= 4; i++) {
                due.is("FITS of STEP " + i + " by n " + n, 0, seen(words[n - 2], i, 1).fits());
            }
            due.holds("FITS of the last STEP by n " + n, seen(words[n - 2], n - 1, 1).fits() > 0);
            due.is("FITS of the last STEP and the next", 0, seen(words[n - 2], n - 1, 1, n, 2).fits());
        }
    }

    private static void fitsOfLabelAboveN() {
        String[] words = {"nene", "nenene", "nenenene"};
        for (int n = 2; n <= 4; n++) {
            for (int label = n + 1; label <= 5; label++) {
                due.is("FITS of LABEL " + label + " by n " + n, 0, seen(words[n - 2], 0, label).fits());
            }
            due.holds("FITS of LABEL n by n " + n, seen(words[n - 2], 0, n).fits() > 0);
        }
    }

    private static void fitsOfTwoLabels() {
        due.is("FITS of STEP 0 with 1 and 2", 0, seen("nenene", 0, 1, 0, 2).fits());
        due.is("FITS of STEP 2 with 3 and 1", 0, seen("nenene", 2, 3, 2, 1).fits());
        due.is("FITS, the two not one behind the other", 0, seen("nenene", 1, 1, 0, 2, 1, 3).fits());
    }

    private static void fitsOfTwoSteps() {
        due.is("FITS of two STEPS with one LABEL", 0, seen("nenene", 0, 1, 1, 1).fits());
        due.is("FITS of the first and the last with one LABEL", 0, seen("nenenenene", 0, 5, 4, 5).fits());
    }

    private static void fitsWithinARun() {
        due.is("FITS of nnenee, 2 first", 1, seen("nnenee", 0, 2).fits());
        due.is("FITS of nnenee, 3 first", 0, seen("nnenee", 0, 3).fits());
        due.is("FITS of nnenee, 1 first", 2, seen("nnenee", 0, 1).fits());
        due.is("FITS of nnenee, 1 second", 0, seen("nnenee", 1, 1).fits());
    }

    private static void fitsOfOneRowTwice() {
        due.is("FITS of one row four times", 2, seen("nenene", 1, 2, 1, 2, 1, 2, 1, 2).fits());
    }

    private static void fitsBehindSize() {
        StairPaths x = seen("nenene", 4, 5);
        due.is("FITS by n 3", 0, x.fits());
        x.size(5);
        x.choose(41);
        due.is("FITS by n 5", 24, x.fits());
        x.size(2);
        due.is("FITS by n 2", 0, x.fits());
    }

    // ---- odds, mean

    private static void oddsOfNone() {
        for (int n = 2; n <= 5; n++) {
            StairPaths x = Stairs.of(n, 0);
            for (int v : new int[] {-1, 11, Stairs.MIN, Stairs.MAX, 256}) {
                due.is("above, of AREA " + v, 0, x.odds(0, v, 0));
                due.is("below, of AREA " + v, 1, x.odds(0, v, 1));
            }
            due.is("above, of PEAKS 0", 0, x.odds(3, 0, 0));
            due.is("below, of PEAKS 0", 1, x.odds(3, 0, 1));
        }
    }

    private static void oddsOfOne() {
        for (int n = 2; n <= 5; n++) {
            StairPaths x = Stairs.of(n, 0);
            due.is("above, of the greatest AREA", 1, x.odds(0, n * (n - 1) / 2, 0));
            due.is("below, of the greatest AREA", Stairs.lastPath(n) + 1, x.odds(0, n * (n - 1) / 2, 1));
            due.is("above, of AREA 0", 1, x.odds(0, 0, 0));
            due.is("below, of AREA 0", Stairs.lastPath(n) + 1, x.odds(0, 0, 1));
        }
    }

    private static void oddsInLowestTerms() {
        StairPaths x = Stairs.of(5, 0);
        int[][] fractions = {{4, 1, 1, 3}, {3, 3, 10, 21}, {3, 2, 5, 21}, {0, 3, 1, 6}, {0, 5, 5, 42}, {0, 8, 1, 21}};
        for (int[] row : fractions) {
            due.is("above, of " + row[0] + " like " + row[1], row[2], x.odds(row[0], row[1], 0));
            due.is("below, of " + row[0] + " like " + row[1], row[3], x.odds(row[0], row[1], 1));
        }
        x.size(4);
        due.is("above, 2 of 14", 1, x.odds(0, 4, 0));
        due.is("below, 2 of 14", 7, x.odds(0, 4, 1));
    }

    private static void oddsOfNoStatistic() {
        StairPaths x = new StairPaths();
        for (int wrong : NO_STATISTICS) {
            due.is("odds(" + wrong + ", 0, 0)", StairPaths.NO, x.odds(wrong, 0, 0));
            due.is("odds(" + wrong + ", 0, 1)", StairPaths.NO, x.odds(wrong, 0, 1));
        }
    }

    private static void oddsOfNoPart() {
        StairPaths x = new StairPaths();
        for (int wrong : NO_PARTS) {
            due.is("odds(0, 0, " + wrong + ")", StairPaths.NO, x.odds(0, 0, wrong));
        }
    }

    private static void meanThatIsWhole() {
        int[][] whole = {{3, 3, 2}, {4, 4, 2}, {5, 3, 3}};
        for (int[] row : whole) {
            StairPaths x = Stairs.of(row[0], 0);
            due.is("above, of statistic " + row[1] + " by n " + row[0], row[2], x.mean(row[1], 0));
            due.is("below, of statistic " + row[1] + " by n " + row[0], 1, x.mean(row[1], 1));
        }
    }

    private static void meanInLowestTerms() {
        int[][] fractions = {{2, 0, 1, 2}, {2, 4, 3, 2}, {3, 0, 7, 5}, {3, 4, 9, 5}, {4, 0, 37, 14}, {4, 3, 5, 2},
            {5, 0, 88, 21}, {5, 1, 88, 21}, {5, 2, 88, 21}, {5, 4, 15, 7}};
        for (int[] row : fractions) {
            StairPaths x = Stairs.of(row[0], 1);
            due.is("above, of statistic " + row[1] + " by n " + row[0], row[2], x.mean(row[1], 0));
            due.is("below, of statistic " + row[1] + " by n " + row[0], row[3], x.mean(row[1], 1));
        }
    }

    private static void meanOfNoStatistic() {
        StairPaths x = new StairPaths();
        for (int wrong : NO_STATISTICS) {
            due.is("mean(" + wrong + ", 0)", StairPaths.NO, x.mean(wrong, 0));
            due.is("mean(" + wrong + ", 1)", StairPaths.NO, x.mean(wrong, 1));
        }
    }

    private static void meanOfNoPart() {
        StairPaths x = new StairPaths();
        for (int wrong : NO_PARTS) {
            due.is("mean(0, " + wrong + ")", StairPaths.NO, x.mean(0, wrong));
            due.is("mean(4, " + wrong + ")", StairPaths.NO, x.mean(4, wrong));
        }
    }
}
