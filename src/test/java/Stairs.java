import java.util.ArrayList;
import java.util.List;

/** What the tests of boundary cases share: objects in a state of their own, and what is told of them as texts. */
final class Stairs {
    static final int MIN = Integer.MIN_VALUE, MAX = Integer.MAX_VALUE;
    static final int NOTHING = -11, CAST = -12, PLACE = -13, SIZE = -14;

    private Stairs() {
    }

    /** All PATHS of n as words, by their numbers; made without the class that is tested. */
    static List<String> words(int n) {
        List<String> words = new ArrayList<>();
        addWords("", n, n, words);
        return words;
    }

    private static void addWords(String ahead, int ups, int alongs, List<String> words) {
        if (ups + alongs == 0) {
            words.add(ahead);
        }
        if (ups > 0) {
            addWords(ahead + "n", ups - 1, alongs, words);
        }
        if (alongs > ups) {
            addWords(ahead + "e", ups, alongs - 1, words);
        }
    }

    static int lastPath(int n) {
        return words(n).size() - 1;
    }

    static int number(String word) {
        return words(word.length() / 2).indexOf(word);
    }

    static StairPaths of(int n, int path) {
        StairPaths x = new StairPaths();
        x.size(n);
        x.choose(path);
        return x;
    }

    static StairPaths of(String word) {
        return of(word.length() / 2, number(word));
    }

    /** An object whose LABELS are told by exchanges, so that no THE TEXT is needed for it. */
    static StairPaths of(String word, String labels) {
        StairPaths x = of(word);
        tell(x, labels);
        return x;
    }

    static void tell(StairPaths x, String labels) {
        for (int i = 0; i < labels.length(); i++) {
            int at = labels(x).indexOf(labels.charAt(i));
            if (at != i) {
                x.exchange(i, at);
            }
        }
    }

    static String labels(StairPaths x) {
        StringBuilder labels = new StringBuilder();
        for (int i = 0; i < x.told(0); i++) {
            labels.append(x.label(i, 0));
        }
        return labels.toString();
    }

    static String word(StairPaths x, int path) {
        StringBuilder word = new StringBuilder();
        for (int i = 0; i < 2 * x.told(0); i++) {
            word.append(x.step(path, i) == 1 ? 'n' : x.step(path, i) == 0 ? 'e' : '?');
        }
        return word.toString();
    }

    static String rows(StairPaths x, int path) {
        StringBuilder rows = new StringBuilder();
        for (int i = 0; i < x.told(0); i++) {
            rows.append(x.row(path, i));
        }
        return rows.toString();
    }

    static void feed(StairPaths x, String text) {
        for (int i = 0; i < text.length(); i++) {
            x.feed(text.charAt(i));
        }
    }

    static int read(StairPaths x, String text) {
        feed(x, text);
        return x.read();
    }

    /** A TAPE becomes a row of these items. */
    static void tape(StairPaths x, int tape, int sort, int... items) {
        x.tape(tape, sort, items.length);
        for (int i = 0; i < items.length; i++) {
            x.item(tape, i, items[i]);
        }
    }

    static String items(StairPaths x, int tape) {
        StringBuilder items = new StringBuilder();
        for (int i = 0; x.peek(tape, i) != StairPaths.NO; i++) {
            items.append(i == 0 ? "" : " ").append(x.peek(tape, i));
        }
        return items.toString();
    }
}
