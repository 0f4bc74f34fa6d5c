/** Boundary cases of promises 10 to 14: a test for each sentence of the document that names one. */
public final class EdgeToldTest {
    private static final Due due = new Due("EdgeToldTest");
    private static final int[] BELOW = {-1, -2, Stairs.MIN, Stairs.MIN + 3};
    private static final int[] FAR_ABOVE = {256, 65536, Stairs.MAX};

    public static void main(String[] args) {
        told();
        of();
        rowAndStep();
        mapped();
        due.end();
    }

    private static void told() {
        String words = "0 n, 1 how many PATHS, 2 the number of CHOSEN";
        due.sentence(words, EdgeToldTest::toldOfLeastAndGreatestN);
        due.sentence("5 ROUND of CHOSEN, 6 WAYS of it. NONE.", EdgeToldTest::toldBelow);
        due.sentence("5 ROUND of CHOSEN, 6 WAYS of it. NONE.", EdgeToldTest::toldAbove);
        due.sentence("ROUND: the fewest times (1 at least) that MAP is taken", EdgeToldTest::roundOfOne);
        due.sentence("one behind the other, till it is that PATH again", EdgeToldTest::roundOfMore);
    }

    private static void of() {
        String words = "A statistic (0 AREA, 1 BOUNCE, 2 TWOS, 3 PEAKS, 4 TOUCHES) of a PATH. NONE: path, what.";
        due.sentence(words, EdgeToldTest::ofFirstAndLast);
        due.sentence(words, EdgeToldTest::ofPathBelow);
        due.sentence(words, EdgeToldTest::ofPathBehind);
        due.sentence(words, EdgeToldTest::ofWhatBelow);
        due.sentence(words, EdgeToldTest::ofWhatAbove);
    }

    private static void rowAndStep() {
        due.sentence("ROW i of a PATH. NONE: path, i.", EdgeToldTest::rowFirstAndLast);
        due.sentence("ROW i of a PATH. NONE: path, i.", EdgeToldTest::rowOfPathBelow);
        due.sentence("ROW i of a PATH. NONE: path, i.", EdgeToldTest::rowOfPathBehind);
        due.sentence("ROW i of a PATH. NONE: path, i.", EdgeToldTest::rowBelow);
        due.sentence("ROW i of a PATH. NONE: path, i.", EdgeToldTest::rowBehind);
        due.sentence("STEP i of a PATH (1 n, 0 e). NONE: path, i.", EdgeToldTest::stepFirstAndLast);
        due.sentence("STEP i of a PATH (1 n, 0 e). NONE: path, i.", EdgeToldTest::stepOfPathBelow);
        due.sentence("STEP i of a PATH (1 n, 0 e). NONE: path, i.", EdgeToldTest::stepOfPathBehind);
        due.sentence("STEP i of a PATH (1 n, 0 e). NONE: path, i.", EdgeToldTest::stepBelow);
        due.sentence("STEP i of a PATH (1 n, 0 e). NONE: path, i.", EdgeToldTest::stepBehind);
    }

    private static void mapped() {
        String words = "of what it is TURNED (1), of BACK of it (2). NONE: path, how.";
        due.sentence("BACK of a PATH: the PATH of which it is MAP (there is just one).", EdgeToldTest::backOfEach);
        due.sentence("all these, one behind the other, are a PATH", EdgeToldTest::mapOfEachIsAPath);
        due.sentence(words, EdgeToldTest::mappedOfPathBelow);
        due.sentence(words, EdgeToldTest::mappedOfPathBehind);
        due.sentence(words, EdgeToldTest::mappedHowBelow);
        due.sentence(words, EdgeToldTest::mappedHowAbove);
    }

    // ---- told

    private static void toldOfLeastAndGreatestN() {
        int[] paths = {2, 5, 14, 42};
        for (int n = 2; n <= 5; n++) {
            StairPaths x = Stairs.of(n, paths[n - 2] - 1);
            due.is("told(0)", n, x.told(0));
            due.is("told(1)", paths[n - 2], x.told(1));
            due.is("told(2)", paths[n - 2] - 1, x.told(2));
        }
    }

    private static void toldBelow() {
        StairPaths x = Stairs.of(5, 41);
        for (int what : BELOW) {
            due.is("told(" + what + ")", StairPaths.NONE, x.told(what));
        }
    }

    private static void toldAbove() {
        StairPaths x = Stairs.of(5, 41);
        due.is("told(6), the last", 120, x.told(6));
        due.is("told(7)", StairPaths.NONE, x.told(7));
        due.is("told(8)", StairPaths.NONE, x.told(8));
        for (int what : FAR_ABOVE) {
            due.is("told(" + what + ")", StairPaths.NONE, x.told(what));
        }
    }

    private static void roundOfOne() {
        due.is("ROUND of nnenneeene", 1, Stairs.of("nnenneeene").told(5));
        StairPaths x = Stairs.of(5, 0);
        int ofOne = 0;
        for (int path = 0; path < 42; path++) {
            x.choose(path);
            ofOne += x.told(5) == 1 ? 1 : 0;
            due.holds("ROUND of " + path + " is 1 at least", x.told(5) >= 1);
        }
        due.is("how many PATHS come round at once", 1, ofOne);
    }

    private static void roundOfMore() {
        for (int n = 2; n <= 5; n++) {
            due.is("ROUND of the first", 2, Stairs.of(n, 0).told(5));
            due.is("ROUND of the last", 2, Stairs.of(n, Stairs.lastPath(n)).told(5));
        }
        due.is("ROUND of nnenee", 3, Stairs.of("nnenee").told(5));
        due.is("ROUND of nnneneee", 12, Stairs.of("nnneneee").told(5));
        due.is("ROUND of nnnneneeee", 20, Stairs.of("nnnneneeee").told(5));
        due.is("ROUND of nnneneneee", 13, Stairs.of("nnneneneee").told(5));
        due.is("ROUND of nnneeneene", 6, Stairs.of("nnneeneene").told(5));
    }

    // ---- of

    private static void ofFirstAndLast() {
        for (int n = 2; n <= 5; n++) {
            StairPaths x = Stairs.of(n, 0);
            int most = n * (n - 1) / 2;
            int[] first = {most, 0, 0, 1, 1};
            int[] last = {0, most, most, n, n};
            for (int what = 0; what < 5; what++) {
                due.is("of(0, " + what + ")", first[what], x.of(0, what));
                due.is("of the last, " + what, last[what], x.of(Stairs.lastPath(n), what));
            }
        }
    }

    private static void ofPathBelow() {
        StairPaths x = Stairs.of(5, 0);
        for (int path : BELOW) {
            due.is("of(" + path + ", 0)", StairPaths.NONE, x.of(path, 0));
            due.is("of(" + path + ", 4)", StairPaths.NONE, x.of(path, 4));
        }
    }

    private static void ofPathBehind() {
        for (int n = 2; n <= 5; n++) {
            StairPaths x = Stairs.of(5, 41);
            x.size(n);
            due.is("of the first that there isn't", StairPaths.NONE, x.of(Stairs.lastPath(n) + 1, 0));
            due.is("of(42, 4)", StairPaths.NONE, x.of(42, 4));
            for (int path : FAR_ABOVE) {
                due.is("of(" + path + ", 1)", StairPaths.NONE, x.of(path, 1));
            }
        }
    }

    private static void ofWhatBelow() {
        StairPaths x = Stairs.of(5, 0);
        for (int what : BELOW) {
            due.is("of(0, " + what + ")", StairPaths.NONE, x.of(0, what));
        }
    }

    private static void ofWhatAbove() {
        StairPaths x = Stairs.of(5, 0);
        due.is("of(41, 4), the last", 5, x.of(41, 4));
        due.is("of(41, 5)", StairPaths.NONE, x.of(41, 5));
        for (int what : FAR_ABOVE) {
            due.is("of(0, " + what + ")", StairPaths.NONE, x.of(0, what));
        }
    }

    // ---- row, step

    private static void rowFirstAndLast() {
        for (int n = 2; n <= 5; n++) {
            StairPaths x = Stairs.of(n, 0);
            due.is("row(0, 0)", 0, x.row(0, 0));
            due.is("row(0, n - 1)", n - 1, x.row(0, n - 1));
            due.is("the last ROW of the last PATH", 0, x.row(Stairs.lastPath(n), n - 1));
        }
    }

    private static void rowOfPathBelow() {
        StairPaths x = Stairs.of(5, 0);
        for (int path : BELOW) {
            due.is("row(" + path + ", 0)", StairPaths.NONE, x.row(path, 0));
        }
    }

    private static void rowOfPathBehind() {
        for (int n = 2; n <= 5; n++) {
            StairPaths x = Stairs.of(5, 41);
            x.size(n);
            due.is("row of the first that there isn't", StairPaths.NONE, x.row(Stairs.lastPath(n) + 1, 0));
            for (int path : FAR_ABOVE) {
                due.is("row(" + path + ", 0)", StairPaths.NONE, x.row(path, 0));
            }
        }
    }

    private static void rowBelow() {
        StairPaths x = Stairs.of(5, 0);
        for (int i : BELOW) {
            due.is("row(0, " + i + ")", StairPaths.NONE, x.row(0, i));
        }
    }

    private static void rowBehind() {
        for (int n = 2; n <= 5; n++) {
            StairPaths x = Stairs.of(n, 0);
            due.is("row(0, n)", StairPaths.NONE, x.row(0, n));
            due.is("row(0, n and 1)", StairPaths.NONE, x.row(0, n + 1));
            for (int i : FAR_ABOVE) {
                due.is("row(0, " + i + ")", StairPaths.NONE, x.row(0, i));
            }
        }
    }

    private static void stepFirstAndLast() {
        for (int n = 2; n <= 5; n++) {
            StairPaths x = Stairs.of(n, 0);
            for (int path = 0; path <= Stairs.lastPath(n); path++) {
                due.is("the first STEP of " + path, 1, x.step(path, 0));
                due.is("the last STEP of " + path, 0, x.step(path, 2 * n - 1));
            }
        }
    }

    private static void stepOfPathBelow() {
        StairPaths x = Stairs.of(5, 0);
        for (int path : BELOW) {
            due.is("step(" + path + ", 0)", StairPaths.NONE, x.step(path, 0));
        }
    }

    private static void stepOfPathBehind() {
        for (int n = 2; n <= 5; n++) {
            StairPaths x = Stairs.of(5, 41);
            x.size(n);
            due.is("a STEP of the first that there isn't", StairPaths.NONE, x.step(Stairs.lastPath(n) + 1, 0));
            for (int path : FAR_ABOVE) {
                due.is("step(" + path + ", 0)", StairPaths.NONE, x.step(path, 0));
            }
        }
    }

    private static void stepBelow() {
        StairPaths x = Stairs.of(5, 0);
        for (int i : BELOW) {
            due.is("step(0, " + i + ")", StairPaths.NONE, x.step(0, i));
        }
        due.is("step(0, -32)", StairPaths.NONE, x.step(0, -32));
    }

    private static void stepBehind() {
        for (int n = 2; n <= 5; n++) {
            StairPaths x = Stairs.of(n, 0);
            due.is("step(0, 2 n)", StairPaths.NONE, x.step(0, 2 * n));
            due.is("step(0, 2 n and 1)", StairPaths.NONE, x.step(0, 2 * n + 1));
            due.is("step(0, 32)", StairPaths.NONE, x.step(0, 32));
            for (int i : FAR_ABOVE) {
                due.is("step(0, " + i + ")", StairPaths.NONE, x.step(0, i));
            }
        }
    }

    // ---- mapped

    private static void backOfEach() {
        for (int n = 2; n <= 5; n++) {
            StairPaths x = Stairs.of(n, 0);
            for (int path = 0; path <= Stairs.lastPath(n); path++) {
                due.is("BACK of MAP of " + path, path, x.mapped(x.mapped(path, 0), 2));
                due.is("MAP of BACK of " + path, path, x.mapped(x.mapped(path, 2), 0));
            }
        }
    }

    private static void mapOfEachIsAPath() {
        for (int n = 2; n <= 5; n++) {
            StairPaths x = Stairs.of(n, 0);
            boolean[] reached = new boolean[Stairs.lastPath(n) + 1];
            for (int path = 0; path <= Stairs.lastPath(n); path++) {
                int map = x.mapped(path, 0);
                due.holds("MAP of " + path + " is one of n " + n, map >= 0 && map <= Stairs.lastPath(n));
                due.holds("no other PATH has that MAP, " + map, !reached[map]);
                reached[map] = true;
            }
        }
    }

    private static void mappedOfPathBelow() {
        StairPaths x = Stairs.of(5, 0);
        for (int path : BELOW) {
            for (int how = 0; how < 3; how++) {
                due.is("mapped(" + path + ", " + how + ")", StairPaths.NONE, x.mapped(path, how));
            }
        }
    }

    private static void mappedOfPathBehind() {
        for (int n = 2; n <= 5; n++) {
            StairPaths x = Stairs.of(5, 41);
            x.size(n);
            for (int how = 0; how < 3; how++) {
                due.is("mapped, the first that there isn't", StairPaths.NONE, x.mapped(Stairs.lastPath(n) + 1, how));
                due.is("mapped(42, " + how + ")", StairPaths.NONE, x.mapped(42, how));
                due.is("mapped(MAX, " + how + ")", StairPaths.NONE, x.mapped(Stairs.MAX, how));
            }
        }
    }

    private static void mappedHowBelow() {
        StairPaths x = Stairs.of(5, 0);
        for (int how : BELOW) {
            due.is("mapped(0, " + how + ")", StairPaths.NONE, x.mapped(0, how));
        }
    }

    private static void mappedHowAbove() {
        StairPaths x = Stairs.of(5, 0);
        due.is("mapped(41, 2), the last", 0, x.mapped(41, 2));
        due.is("mapped(41, 3)", StairPaths.NONE, x.mapped(41, 3));
        for (int how : FAR_ABOVE) {
            due.is("mapped(0, " + how + ")", StairPaths.NONE, x.mapped(0, how));
        }
    }
}
