/** Promises 10 to 16: told, of, row, step, mapped, label, written. */
public final class ToldTest {
    private static final Due due = new Due("ToldTest");
    private static final int[] WRONG = {-1, -2, Integer.MIN_VALUE, Integer.MAX_VALUE};

    public static void main(String[] args) {
        told();
        of();
        row();
        step();
        mapped();
        label();
        written();
        wrongInputs();
        due.end();
    }

    private static void told() {
        StairPaths x = new StairPaths();
        int[] catalan = {2, 5, 14, 42};
        for (int n = 2; n <= 5; n++) {
            x.size(n);
            due.is("n", n, x.told(0));
            due.is("how many PATHS", catalan[n - 2], x.told(1));
            due.is("WAYS of PATH 0", 1, x.told(6));
            due.is("LATE of PATH 0", n * (n - 1) / 2, x.told(4));
            due.is("ROUND of PATH 0", 2, x.told(5));
        }
        x.size(3);
        x.choose(2);
        due.is("CHOSEN", 2, x.told(2));
        due.is("told well", 1, x.told(3));
        due.is("LATE", 1, x.told(4));
        due.is("ROUND", 3, x.told(5));
        due.is("WAYS", 3, x.told(6));
        x.exchange(0, 1);
        due.is("not told well", 0, x.told(3));
        due.is("not LATE", -5, x.told(4));
        x.exchange(0, 2);
        due.is("LABELS 3 1 2: not told well", 0, x.told(3));
        x.choose(2);
        x.exchange(1, 2);
        due.is("LABELS 1 3 2: told well", 1, x.told(3));
        due.is("LATE stays", 1, x.told(4));
        due.is("told(7)", StairPaths.NONE, x.told(7));
    }

    private static void of() {
        StairPaths x = new StairPaths();
        // AREA, BOUNCE, TWOS, PEAKS, TOUCHES by hand: nnneee nnenee nneene nennee nenene
        int[][] figures = {{3, 0, 0, 1, 1}, {2, 1, 1, 2, 1}, {1, 1, 2, 2, 2}, {1, 2, 1, 2, 2}, {0, 3, 3, 3, 3}};
        for (int path = 0; path < 5; path++) {
            for (int what = 0; what < 5; what++) {
                due.is("of(" + path + ", " + what + ")", figures[path][what], x.of(path, what));
            }
        }
        due.is("of(5, 0)", StairPaths.NONE, x.of(5, 0));
        due.is("of(0, 5)", StairPaths.NONE, x.of(0, 5));
        x.size(5);
        due.is("AREA of 20", 3, x.of(20, 0));
        due.is("BOUNCE of 20", 4, x.of(20, 1));
        due.is("TWOS of 20", 7, x.of(20, 2));
        due.is("PEAKS of 20", 4, x.of(20, 3));
        due.is("TOUCHES of 20", 2, x.of(20, 4));
        due.is("BOUNCE of 41", 10, x.of(41, 1));
        due.is("of(42, 0)", StairPaths.NONE, x.of(42, 0));
    }

    private static void row() {
        StairPaths x = new StairPaths();
        int[][] rows = {{0, 1, 2}, {0, 1, 1}, {0, 1, 0}, {0, 0, 1}, {0, 0, 0}};
        for (int path = 0; path < 5; path++) {
            for (int i = 0; i < 3; i++) {
                due.is("row(" + path + ", " + i + ")", rows[path][i], x.row(path, i));
            }
        }
        due.is("row(5, 0)", StairPaths.NONE, x.row(5, 0));
        due.is("row(0, 3)", StairPaths.NONE, x.row(0, 3));
        x.size(5);
        due.is("row(0, 4)", 4, x.row(0, 4));
        due.is("row(0, 5)", StairPaths.NONE, x.row(0, 5));
    }

    private static void step() {
        StairPaths x = new StairPaths();
        String[] words = {"nnneee", "nnenee", "nneene", "nennee", "nenene"};
        for (int path = 0; path < 5; path++) {
            for (int i = 0; i < 6; i++) {
                due.is("step(" + path + ", " + i + ")", words[path].charAt(i) == 'n' ? 1 : 0, x.step(path, i));
            }
        }
        due.is("step(0, 6)", StairPaths.NONE, x.step(0, 6));
        due.is("step(5, 0)", StairPaths.NONE, x.step(5, 0));
        x.size(5);
        due.is("step(41, 9)", 0, x.step(41, 9));
        due.is("step(41, 8)", 1, x.step(41, 8));
        due.is("step(41, 10)", StairPaths.NONE, x.step(41, 10));
    }

    private static void mapped() {
        StairPaths x = new StairPaths();
        x.size(4);
        int[] map = {13, 12, 10, 6, 11, 9, 4, 5, 1, 8, 7, 2, 3, 0};
        for (int path = 0; path < 14; path++) {
            due.is("mapped(" + path + ", 0)", map[path], x.mapped(path, 0));
            due.is("mapped(" + map[path] + ", 2)", path, x.mapped(map[path], 2));
            due.is("AREA carried to BOUNCE", x.of(path, 0), x.of(map[path], 1));
            due.is("TWOS carried to AREA", x.of(path, 2), x.of(map[path], 0));
        }
        x.size(5);
        due.is("mapped(20, 0)", 14, x.mapped(20, 0));
        due.is("mapped(20, 1)", 33, x.mapped(20, 1));
        due.is("mapped(33, 1)", 20, x.mapped(33, 1));
        due.is("mapped(14, 2)", 20, x.mapped(14, 2));
        due.is("mapped(42, 0)", StairPaths.NONE, x.mapped(42, 0));
        due.is("mapped(0, 3)", StairPaths.NONE, x.mapped(0, 3));
        due.is("CHOSEN stays", 0, x.told(2));
    }

    private static void label() {
        StairPaths x = new StairPaths();
        x.size(5);
        x.choose(41);
        x.exchange(0, 4);
        x.exchange(1, 2);
        int[] labels = {5, 3, 2, 4, 1};
        int[] asked = {4, 2, 1, 3, 0};
        for (int i = 0; i < 5; i++) {
            due.is("label", labels[i], x.label(i, 0));
            due.is("asked", asked[i], x.label(i, 1));
            due.is("taken", asked[i], x.label(i, 2));
        }
        x.size(3);
        x.choose(1);
        // LABELS 1 2 3 on nnenee: cars ask 0, 0, 1 and take 0, 1, 2
        due.is("asked by 2", 0, x.label(1, 1));
        due.is("asked by 3", 1, x.label(2, 1));
        due.is("taken by 1", 0, x.label(0, 2));
        due.is("taken by 2", 1, x.label(1, 2));
        due.is("taken by 3", 2, x.label(2, 2));
        x.exchange(1, 2);
        // LABELS 1 3 2: cars ask 0, 1, 0 and take 0, 1, 2
        due.is("asked by 2", 1, x.label(1, 1));
        due.is("asked by 3", 0, x.label(2, 1));
        due.is("taken by 2", 1, x.label(1, 2));
        due.is("taken by 3", 2, x.label(2, 2));
        due.is("LATE", 2, x.told(4));
        x.exchange(0, 1);
        due.is("label of LABELS that aren't told well", 3, x.label(0, 0));
        due.is("asked, not told well", StairPaths.STATE, x.label(0, 1));
        due.is("taken, not told well", StairPaths.STATE, x.label(0, 2));
        due.is("label(3, 1), not told well", StairPaths.NONE, x.label(3, 1));
        due.is("label(0, 3), not told well", StairPaths.NONE, x.label(0, 3));
    }

    private static void written() {
        StairPaths x = new StairPaths();
        x.choose(3);
        x.exchange(0, 2);
        String signs = "n3en2n1ee";
        for (int i = 0; i < signs.length(); i++) {
            due.is("written(" + i + ")", signs.charAt(i), x.written(i));
        }
        due.is("written(9)", -5, x.written(9));
        due.is("written(MAX)", -5, x.written(Integer.MAX_VALUE));
        due.is("written(-1)", StairPaths.NONE, x.written(-1));
        due.is("written(MIN)", StairPaths.NONE, x.written(Integer.MIN_VALUE));
        x.size(5);
        due.is("written(14)", 'e', x.written(14));
        due.is("written(9)", '5', x.written(9));
        due.is("written(15)", -5, x.written(15));
    }

    private static void wrongInputs() {
        StairPaths x = new StairPaths();
        for (int wrong : WRONG) {
            due.is("told(" + wrong + ")", StairPaths.NONE, x.told(wrong));
            due.is("of(" + wrong + ", 0)", StairPaths.NONE, x.of(wrong, 0));
            due.is("of(0, " + wrong + ")", StairPaths.NONE, x.of(0, wrong));
            due.is("row(" + wrong + ", 0)", StairPaths.NONE, x.row(wrong, 0));
            due.is("row(0, " + wrong + ")", StairPaths.NONE, x.row(0, wrong));
            due.is("step(" + wrong + ", 0)", StairPaths.NONE, x.step(wrong, 0));
            due.is("step(0, " + wrong + ")", StairPaths.NONE, x.step(0, wrong));
            due.is("mapped(" + wrong + ", 0)", StairPaths.NONE, x.mapped(wrong, 0));
            due.is("mapped(0, " + wrong + ")", StairPaths.NONE, x.mapped(0, wrong));
            due.is("label(" + wrong + ", 0)", StairPaths.NONE, x.label(wrong, 0));
            due.is("label(0, " + wrong + ")", StairPaths.NONE, x.label(0, wrong));
        }
    }
}
