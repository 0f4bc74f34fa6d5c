import java.math.BigInteger;
import java.util.ArrayList;
import java.util.Arrays;
import java.util.List;
import java.util.regex.Matcher;
import java.util.regex.Pattern;

/**
 * The document once more, as plainly as the Java library lets it be said, and unlike the class in
 * its ways: PATHS are texts, LABELS are tried one and all, a FAULT is what a regular expression can't
 * go on from, TAPES are the host's own arrays and their refusals the host's own exceptions.
 */
public final class Model {
    private static final long NO = Long.MIN_VALUE;
    private static final String CLAUSE =
        "(?:size [0-9]|path [ne]{1,10}|map|turn|up [0-9]|down [0-9]|label [0-9]{1,5})";
    private static final Pattern SET_UP = Pattern.compile(CLAUSE + "(?:;" + CLAUSE + "){0,11}");

    private int n = 3;
    private int chosen = 0;
    private int[] labels = {1, 2, 3};
    private List<int[]> seen = new ArrayList<>();
    private List<int[]> events = new ArrayList<>();
    private List<int[]> book = new ArrayList<>();
    private Model kept = null;
    private String text = "";
    private final Object[] tapes = new Object[6];
    private List<String> paths = allPaths(3);

    // ---- PATHS as texts

    private static List<String> allPaths(int n) {
        List<String> found = new ArrayList<>();
        addPaths("", n, n, found);
        return found;
    }

    private static void addPaths(String ahead, int ups, int alongs, List<String> found) {
        if (alongs == 0) {
            found.add(ahead);
        }
        if (ups > 0) {
            addPaths(ahead + "n", ups - 1, alongs, found);
        }
        if (alongs > ups) {
            addPaths(ahead + "e", ups, alongs - 1, found);
        }
    }

    private static int many(String text, char sign) {
        return (int) text.chars().filter(c -> c == sign).count();
    }

    /** Where the sign stands for the time told (from 0). */
    private static int placeOf(String path, char sign, int time) {
        int place = path.indexOf(sign);
        for (int k = 0; k < time; k++) {
            place = path.indexOf(sign, place + 1);
        }
        return place;
    }

    private static int column(String path, int i) {
        return many(path.substring(0, placeOf(path, 'n', i)), 'e');
    }

    private static int[] rows(String path) {
        int[] rows = new int[path.length() / 2];
        for (int i = 0; i < rows.length; i++) {
            rows[i] = i - column(path, i);
        }
        return rows;
    }

    private static int figure(String path, int what) {
        int[] rows = rows(path);
        int figure = 0;
        switch (what) {
            case 0:
                return Arrays.stream(rows).sum();
            case 1:
                for (int d = 0; d < rows.length; figure += rows.length - d) {
                    d = many(path.substring(0, placeOf(path, 'e', d)), 'n');
                }
                return figure;
            case 2:
                for (int j = 0; j < rows.length; j++) {
                    for (int i = 0; i < j; i++) {
                        figure += rows[i] == rows[j] || rows[i] == rows[j] + 1 ? 1 : 0;
                    }
                }
                return figure;
            case 3:
                return path.split("ne", -1).length - 1;
            default:
                return (int) Arrays.stream(rows).filter(row -> row == 0).count();
        }
    }

    private static String map(String path) {
        int[] rows = rows(path);
        StringBuilder image = new StringBuilder();
        for (int k = 0; k <= rows.length; k++) {
            for (int row : rows) {
                image.append(row == k ? "n" : row == k - 1 ? "e" : "");
            }
        }
        return image.toString();
    }

    private static String turned(String path) {
        return new StringBuilder(path).reverse().toString().replace('n', 'x').replace('e', 'n').replace('x', 'e');
    }

    private static String exchanged(String path, int i, String two) {
        if (i < 0 || i > path.length() - 2 || !path.startsWith(two, i)) {
            return "";
        }
        return path.substring(0, i) + two.charAt(1) + two.charAt(0) + path.substring(i + 2);
    }

    private int carried(int path, int how) {
        if (how == 2) {
            for (int other = 0; other < paths.size(); other++) {
                if (map(paths.get(other)).equals(paths.get(path))) {
                    return other;
                }
            }
            throw new IllegalStateException("no PATH is carried to " + paths.get(path));
        }
        return paths.indexOf(how == 0 ? map(paths.get(path)) : turned(paths.get(path)));
    }

    // ---- LABELS

    private static List<int[]> orders(int n) {
        List<int[]> found = new ArrayList<>();
        addOrders(new int[n], 0, found);
        return found;
    }

    private static void addOrders(int[] order, int told, List<int[]> found) {
        if (told == order.length) {
            found.add(order.clone());
            return;
        }
        for (int label = 1; label <= order.length; label++) {
            int next = label;
            if (Arrays.stream(order, 0, told).noneMatch(had -> had == next)) {
                order[told] = label;
                addOrders(order, told + 1, found);
            }
        }
    }

    private static boolean well(String path, int[] labels) {
        for (int i = 1; i < labels.length; i++) {
            if (placeOf(path, 'n', i) == placeOf(path, 'n', i - 1) + 1 && labels[i] < labels[i - 1]) {
                return false;
            }
        }
        return true;
    }

    private int fitting(String path, List<int[]> wanted) {
        int fitting = 0;
        for (int[] order : orders(n)) {
            boolean fits = well(path, order);
            for (int[] row : wanted) {
                fits &= row[0] < n && order[Math.min(row[0], n - 1)] == row[1];
            }
            fitting += fits ? 1 : 0;
        }
        return fitting;
    }

    private int asked(int car) {
        for (int i = 0; i < n; i++) {
            if (labels[i] == car) {
                return column(paths.get(chosen), i);
            }
        }
        throw new IllegalStateException("no LABEL " + car);
    }

    /** What each car takes, by its number less 1. */
    private int[] taken() {
        int[] taken = new int[n];
        boolean[] full = new boolean[n];
        for (int car = 1; car <= n; car++) {
            int place = asked(car);
            while (full[place]) {
                place++;
            }
            full[place] = true;
            taken[car - 1] = place;
        }
        return taken;
    }

    private boolean become(int path) {
        if (path < 0 || path >= paths.size()) {
            return false;
        }
        chosen = path;
        labels = new int[n];
        for (int i = 0; i < n; i++) {
            labels[i] = i + 1;
        }
        return true;
    }

    private boolean isPath(int path) {
        return path >= 0 && path < paths.size();
    }

    private static boolean within(int value, int least, int most) {
        return value >= least && value <= most;
    }

    // ---- the calls

    public int size(int size) {
        if (!within(size, 2, 5)) {
            return -2;
        }
        int before = n;
        n = size;
        paths = allPaths(n);
        become(0);
        return before;
    }

    public int choose(int path) {
        int before = chosen;
        return become(path) ? before : -1;
    }

    public int becomes(int how) {
        if (!within(how, 0, 2)) {
            return -1;
        }
        become(carried(chosen, how));
        return chosen;
    }

    public int raise(int i) {
        if (!within(i, 0, 2 * n - 2)) {
            return -2;
        }
        return become(paths.indexOf(exchanged(paths.get(chosen), i, "en"))) ? chosen : -3;
    }

    public int lower(int i) {
        if (!within(i, 0, 2 * n - 2)) {
            return -2;
        }
        return become(paths.indexOf(exchanged(paths.get(chosen), i, "ne"))) ? chosen : -3;
    }

    public int exchange(int i, int j) {
        if (!within(i, 0, n - 1) || !within(j, 0, n - 1) || i == j) {
            return -1;
        }
        int label = labels[i];
        labels[i] = labels[j];
        labels[j] = label;
        return told(3);
    }

    public int feed(int sign) {
        if (!within(sign, 0, 127)) {
            return -2;
        }
        if (text.length() == 100) {
            return -4;
        }
        text += (char) sign;
        return text.length();
    }

    public int read() {
        String told = text;
        text = "";
        for (int end = 1; end <= told.length(); end++) {
            Matcher matcher = SET_UP.matcher(told.substring(0, end));
            if (!matcher.matches() && !matcher.hitEnd()) {
                return -10 - (end - 1);
            }
        }
        if (!SET_UP.matcher(told).matches()) {
            return -10 - told.length();
        }
        int done = 0;
        for (String clause : told.split(";")) {
            done += done(clause) ? 1 : 0;
        }
        return done;
    }

    private boolean done(String clause) {
        String[] words = clause.split(" ");
        switch (words[0]) {
            case "size":
                return size(Integer.parseInt(words[1])) > 0;
            case "path":
                return become(paths.indexOf(words[1]));
            case "map":
                return becomes(0) >= 0;
            case "turn":
                return becomes(1) >= 0;
            case "up":
                return raise(Integer.parseInt(words[1])) >= 0;
            case "down":
                return lower(Integer.parseInt(words[1])) >= 0;
            default:
                for (int[] order : orders(n)) {
                    if (Arrays.toString(order).replaceAll("[^0-9]", "").equals(words[1])) {
                        labels = order;
                        return true;
                    }
                }
                return false;
        }
    }

    public int told(int what) {
        switch (what) {
            case 0:
                return n;
            case 1:
                return paths.size();
            case 2:
                return chosen;
            case 3:
                return well(paths.get(chosen), labels) ? 1 : 0;
            case 4:
                int late = 0;
                for (int car = 1; car <= n; car++) {
                    late += taken()[car - 1] - asked(car);
                }
                return told(3) == 1 ? late : -5;
            case 5:
                int times = 1;
                for (int at = carried(chosen, 0); at != chosen; at = carried(at, 0)) {
                    times++;
                }
                return times;
            case 6:
                return ways(chosen);
            default:
                return -1;
        }
    }

    public int of(int path, int what) {
        return isPath(path) && within(what, 0, 4) ? figure(paths.get(path), what) : -1;
    }

    public int row(int path, int i) {
        return isPath(path) && within(i, 0, n - 1) ? rows(paths.get(path))[i] : -1;
    }

    public int step(int path, int i) {
        return isPath(path) && within(i, 0, 2 * n - 1) ? paths.get(path).charAt(i) == 'n' ? 1 : 0 : -1;
    }

    public int mapped(int path, int how) {
        return isPath(path) && within(how, 0, 2) ? carried(path, how) : -1;
    }

    public int label(int i, int what) {
        if (!within(i, 0, n - 1) || !within(what, 0, 2)) {
            return -1;
        }
        if (what == 0) {
            return labels[i];
        }
        if (told(3) == 0) {
            return -3;
        }
        return what == 1 ? asked(i + 1) : taken()[i];
    }

    public int written(int i) {
        if (i < 0) {
            return -1;
        }
        String signs = paths.get(chosen);
        for (int k = n - 1; k >= 0; k--) {
            int place = placeOf(signs, 'n', k);
            signs = signs.substring(0, place + 1) + labels[k] + signs.substring(place + 1);
        }
        return i < signs.length() ? signs.charAt(i) : -5;
    }

    public int counted(int a, int b, int v, int w) {
        if (!within(a, 0, 4) || !within(b, 0, 4)) {
            return -1;
        }
        return (int) paths.stream().filter(path -> figure(path, a) == v && figure(path, b) == w).count();
    }

    public long sum(int a, int b, int q, int t) {
        if (!within(a, 0, 4) || !within(b, 0, 4) || !within(q, -8, 8) || !within(t, -8, 8)) {
            return NO;
        }
        BigInteger sum = BigInteger.ZERO;
        for (String path : paths) {
            sum = sum.add(BigInteger.valueOf(q).pow(figure(path, a)).multiply(BigInteger.valueOf(t).pow(figure(path, b))));
        }
        return sum.longValueExact();
    }

    public int ways(int path) {
        if (path == -1) {
            return paths.stream().mapToInt(each -> fitting(each, List.of())).sum();
        }
        return isPath(path) ? fitting(paths.get(path), List.of()) : -1;
    }

    private static int come(List<int[]> rows, int most, int one, int two) {
        if (rows.size() == most) {
            return -4;
        }
        rows.add(new int[] {one, two});
        return rows.size();
    }

    private static int gone(List<int[]> rows) {
        rows.clear();
        return 0;
    }

    public int see(int i, int label) {
        if (i == -1) {
            return gone(seen);
        }
        return !within(i, 0, 4) ? -1 : !within(label, 1, 5) ? -2 : come(seen, 4, i, label);
    }

    public int fits() {
        return fitting(paths.get(chosen), seen);
    }

    private static long lowest(long above, long below, int part) {
        BigInteger divisor = BigInteger.valueOf(above).gcd(BigInteger.valueOf(below));
        return (part == 0 ? above : below) / divisor.longValueExact();
    }

    public long odds(int what, int v, int part) {
        if (!within(what, 0, 4) || !within(part, 0, 1)) {
            return NO;
        }
        return lowest(paths.stream().filter(path -> figure(path, what) == v).count(), paths.size(), part);
    }

    public long mean(int what, int part) {
        if (!within(what, 0, 4) || !within(part, 0, 1)) {
            return NO;
        }
        return lowest(paths.stream().mapToInt(path -> figure(path, what)).sum(), paths.size(), part);
    }

    public int event(int what, int place) {
        if (what == -1) {
            return gone(events);
        }
        return !within(what, 0, 3) ? -1 : !within(place, 0, what < 2 ? 0 : 8) ? -2 : come(events, 8, what, place);
    }

    public int after(int what) {
        if (!within(what, 0, 2)) {
            return -1;
        }
        String path = paths.get(chosen);
        for (int[] row : events) {
            String next = row[0] == 0 ? map(path) : row[0] == 1 ? turned(path)
                : exchanged(path, row[1], row[0] == 2 ? "en" : "ne");
            path = paths.contains(next) ? next : path;
        }
        return what == 0 ? paths.indexOf(path) : figure(path, what - 1);
    }

    public int book(int path, int area) {
        if (path == -1) {
            return gone(book);
        }
        return !isPath(path) ? -1 : !within(area, 0, 10) ? -2 : come(book, 8, path, area);
    }

    public int looked() {
        for (int[] row : book) {
            if (!isPath(row[0]) || figure(paths.get(row[0]), 0) != row[1]) {
                return book.indexOf(row);
            }
        }
        return -5;
    }

    public int judge(int tape, int i) {
        if (!within(tape, 0, 5)) {
            return -1;
        }
        if (tapes[tape] == null || i < 0 && tapes[tape] instanceof byte[]) {
            return 100;
        }
        if (!(tapes[tape] instanceof byte[])) {
            return -12;
        }
        byte[] told = (byte[]) tapes[tape];
        byte[] rest = i > told.length ? new byte[0] : Arrays.copyOfRange(told, i, told.length);
        int[] rows = rows(paths.get(chosen));
        for (int k = 0; k < Math.min(n, rest.length); k++) {
            if (rest[k] != rows[k]) {
                return k;
            }
        }
        return rest.length < n ? 100 + rest.length : -5;
    }

    public int image() {
        kept = new Model();
        kept.take(this);
        return chosen;
    }

    public int undo() {
        if (kept == null) {
            return -3;
        }
        take(kept);
        return chosen;
    }

    private void take(Model other) {
        n = other.n;
        paths = other.paths;
        chosen = other.chosen;
        labels = other.labels.clone();
        seen = new ArrayList<>(other.seen);
        events = new ArrayList<>(other.events);
        book = new ArrayList<>(other.book);
    }

    public int count(int what) {
        return what == 0 ? seen.size() : what == 1 ? events.size() : what == 2 ? book.size()
            : what == 3 ? text.length() : -2;
    }

    public int tape(int tape, int sort, int length) {
        if (!within(tape, 0, 5)) {
            return -1;
        }
        if (!within(sort, -1, 4) || sort >= 0 && length > 60) {
            return -2;
        }
        try {
            tapes[tape] = sort == -1 ? null : sort == 0 ? new byte[length] : sort == 1 ? new short[length]
                : sort == 2 ? new int[length] : sort == 3 ? new long[length] : new boolean[length];
        } catch (NegativeArraySizeException refused) {
            return -14;
        }
        return 1;
    }

    public int item(int tape, int i, long v) {
        if (!within(tape, 0, 5)) {
            return -1;
        }
        Object row = tapes[tape];
        try {
            if (row instanceof byte[]) {
                ((byte[]) row)[i] = (byte) v;
            } else if (row instanceof short[]) {
                ((short[]) row)[i] = (short) v;
            } else if (row instanceof int[]) {
                ((int[]) row)[i] = (int) v;
            } else if (row instanceof boolean[]) {
                ((boolean[]) row)[i] = v != 0;
            } else {
                ((long[]) row)[i] = v;
            }
        } catch (NullPointerException refused) {
            return -11;
        } catch (ArrayIndexOutOfBoundsException refused) {
            return -13;
        }
        return 1;
    }

    public long peek(int tape, int i) {
        Object row = within(tape, 0, 5) ? tapes[tape] : null;
        if (row == null || i < 0 || i >= java.lang.reflect.Array.getLength(row)) {
            return NO;
        }
        return row instanceof boolean[] ? ((boolean[]) row)[i] ? 1 : 0 : java.lang.reflect.Array.getLong(row, i);
    }

    @SuppressWarnings("SuspiciousSystemArraycopy")
    public int shift(int tape, int i, int other, int j, int many) {
        if (!within(tape, 0, 5) || !within(other, 0, 5)) {
            return -1;
        }
        try {
            System.arraycopy(tapes[tape], i, tapes[other], j, many);
        } catch (NullPointerException refused) {
            return -11;
        } catch (ArrayStoreException refused) {
            return -12;
        } catch (ArrayIndexOutOfBoundsException refused) {
            return -13;
        }
        return many;
    }
}
