/**
 * Paths under stairs: steps up (n) and along (e) that stay above the slope, their statistics, the
 * map that carries one to another, the labels on them and the cars that are parked by them.
 * What each call promises is numbered in ../shared/DOC.md, whose words the comments use.
 */
public final class StairPaths {
    public static final int NONE = -1, BAD = -2, STATE = -3, FULL = -4;
    public static final long NO = Long.MIN_VALUE;

    private static final int NOTHING = -11, CAST = -12, PLACE = -13, SIZE = -14;
    private static final int NOT_SO = -5;
    private static final int TOO_SHORT = 100;
    private static final int BEFORE_FAULT = -10;

    private static final int LEAST_N = 2, MOST_N = 5, FIRST_N = 3;
    private static final int MOST_PATHS = 42;
    private static final int MOST_AREA = 10;
    private static final int MOST_LETTER = 8;
    private static final int MOST_EVENT_PLACE = 8;

    private static final int STATISTICS = 5;
    private static final int AREA = 0, BOUNCE = 1, TWOS = 2, PEAKS = 3, TOUCHES = 4;

    private static final int HOWS = 3;
    private static final int MAP = 0, TURN = 1, BACK = 2;

    private static final int EVENT_KINDS = 4;
    private static final int TO_MAP = 0, TO_TURN = 1, TO_RAISE = 2, TO_LOWER = 3;

    private static final int STEP_N = 1, STEP_E = 0;

    private static final int TAPES = 6;
    private static final int MOST_ITEMS = 60;
    private static final int SORTS = 5;
    private static final int HOLDS_NOTHING = -1;
    private static final int BYTES = 0, SHORTS = 1, INTS = 2, LONGS = 3;

    private static final int MOST_SEEN = 4, MOST_EVENTS = 8, MOST_BOOK = 8;

    private static final int MOST_SIGNS = 100;
    private static final int LAST_SIGN = 127;
    private static final int MOST_CLAUSES = 12;
    private static final int SOUND = -1;
    private static final int END = -1;

    private final PathTable[] tables;
    private final Setting now;
    private final Setting kept;
    private boolean imageTaken;
    private final Script text;
    private final Tape[] tapes;

    public StairPaths() {
        tables = new PathTable[MOST_N - LEAST_N + 1];
        for (int k = 0; k < tables.length; k++) {
            tables[k] = new PathTable(LEAST_N + k);
        }
        now = new Setting(tables[FIRST_N - LEAST_N]);
        kept = new Setting(tables[FIRST_N - LEAST_N]);
        text = new Script();
        tapes = new Tape[TAPES];
        for (int k = 0; k < tapes.length; k++) {
            tapes[k] = new Tape();
        }
    }

    // ---- the path

    public int size(int n) {
        int before = now.table.n;
        return resized(n) ? before : BAD;
    }

    public int choose(int path) {
        int before = now.chosen;
        return now.become(path) ? before : NONE;
    }

    public int becomes(int how) {
        if (!isHow(how)) {
            return NONE;
        }
        now.become(now.table.carriedTo(how, now.chosen));
        return now.chosen;
    }

    public int raise(int i) {
        if (!now.table.isTurningPlace(i)) {
            return BAD;
        }
        return now.become(now.table.raised(now.chosen, i)) ? now.chosen : STATE;
    }

    public int lower(int i) {
        if (!now.table.isTurningPlace(i)) {
            return BAD;
        }
        return now.become(now.table.lowered(now.chosen, i)) ? now.chosen : STATE;
    }

    public int exchange(int i, int j) {
        int n = now.table.n;
        if (i < 0 || i >= n || j < 0 || j >= n || i == j) {
            return NONE;
        }
        int label = now.labels[i];
        now.labels[i] = now.labels[j];
        now.labels[j] = label;
        return now.toldWell() ? 1 : 0;
    }

    public int feed(int sign) {
        if (sign < 0 || sign > LAST_SIGN) {
            return BAD;
        }
        return text.append(sign) ? text.length : FULL;
    }

    public int read() {
        int fault = text.fault();
        int answer = fault == SOUND ? clausesDone() : BEFORE_FAULT - fault;
        text.length = 0;
        return answer;
    }

    // ---- what is told

    public int told(int what) {
        switch (what) {
            case 0:
                return now.table.n;
            case 1:
                return now.table.paths;
            case 2:
                return now.chosen;
            case 3:
                return now.toldWell() ? 1 : 0;
            case 4:
                return now.toldWell() ? now.lateness() : NOT_SO;
            case 5:
                return now.table.round(now.chosen);
            case 6:
                return now.table.labellingsOf(now.chosen);
            default:
                return NONE;
        }
    }

    public int of(int path, int what) {
        return now.table.figure(what, path);
    }

    public int row(int path, int i) {
        if (!now.table.isNumber(path) || i < 0 || i >= now.table.n) {
            return NONE;
        }
        return now.table.rowIn(now.table.wordOf(path), i);
    }

    public int step(int path, int i) {
        if (!now.table.isNumber(path) || i < 0 || i >= now.table.steps) {
            return NONE;
        }
        return now.table.stepIn(now.table.wordOf(path), i);
    }

    public int mapped(int path, int how) {
        return now.table.carriedTo(how, path);
    }

    public int label(int i, int what) {
        if (i < 0 || i >= now.table.n || what < 0 || what > 2) {
            return NONE;
        }
        if (what == 0) {
            return now.labels[i];
        }
        if (!now.toldWell()) {
            return STATE;
        }
        return what == 1 ? now.placeAsked(i + 1) : now.placeTaken(i + 1);
    }

    public int written(int i) {
        return i < 0 ? NONE : now.signWritten(i);
    }

    // ---- counts, sums

    public int counted(int a, int b, int v, int w) {
        if (!isStatistic(a) || !isStatistic(b)) {
            return NONE;
        }
        int found = 0;
        for (int path = 0; path < now.table.paths; path++) {
            if (now.table.figure(a, path) == v && now.table.figure(b, path) == w) {
                found++;
            }
        }
        return found;
    }

    public long sum(int a, int b, int q, int t) {
        if (!isStatistic(a) || !isStatistic(b) || !isLetter(q) || !isLetter(t)) {
            return NO;
        }
        long total = 0;
        for (int path = 0; path < now.table.paths; path++) {
            total += power(q, now.table.figure(a, path)) * power(t, now.table.figure(b, path));
        }
        return total;
    }

    public int ways(int path) {
        return path == -1 ? now.table.allLabellings() : now.table.labellingsOf(path);
    }

    // ---- seen, odds

    public int see(int i, int label) {
        if (i == -1) {
            return now.seen.emptied();
        }
        if (i < 0 || i >= MOST_N) {
            return NONE;
        }
        if (label < 1 || label > MOST_N) {
            return BAD;
        }
        return now.seen.append(i, label) ? now.seen.length : FULL;
    }

    public int fits() {
        return now.fittingLabellings();
    }

    public long odds(int what, int v, int part) {
        if (!isStatistic(what) || !isPart(part)) {
            return NO;
        }
        return inLowestTerms(counted(what, what, v, v), now.table.paths, part);
    }

    public long mean(int what, int part) {
        if (!isStatistic(what) || !isPart(part)) {
            return NO;
        }
        return inLowestTerms(now.table.total(what), now.table.paths, part);
    }

    // ---- events, books

    public int event(int what, int n) {
        if (what == -1) {
            return now.events.emptied();
        }
        if (what < 0 || what >= EVENT_KINDS) {
            return NONE;
        }
        int most = what == TO_RAISE || what == TO_LOWER ? MOST_EVENT_PLACE : 0;
        if (n < 0 || n > most) {
            return BAD;
        }
        return now.events.append(what, n) ? now.events.length : FULL;
    }

    public int after(int what) {
        switch (what) {
            case 0:
                return now.pathAfterEvents();
            case 1:
                return now.table.figure(AREA, now.pathAfterEvents());
            case 2:
                return now.table.figure(BOUNCE, now.pathAfterEvents());
            default:
                return NONE;
        }
    }

    public int book(int path, int area) {
        if (path == -1) {
            return now.book.emptied();
        }
        if (!now.table.isNumber(path)) {
            return NONE;
        }
        if (area < 0 || area > MOST_AREA) {
            return BAD;
        }
        return now.book.append(path, area) ? now.book.length : FULL;
    }

    public int looked() {
        return now.firstWrongInBook();
    }

    // ---- judging, the image, tapes

    public int judge(int tape, int i) {
        if (!isTape(tape)) {
            return NONE;
        }
        Tape told = tapes[tape];
        if (told.sort == HOLDS_NOTHING) {
            return TOO_SHORT;
        }
        return told.sort == BYTES ? now.firstOtherRow(told, i) : CAST;
    }

    public int image() {
        kept.takeFrom(now);
        imageTaken = true;
        return now.chosen;
    }

    public int undo() {
        if (!imageTaken) {
            return STATE;
        }
        now.takeFrom(kept);
        return now.chosen;
    }

    public int count(int what) {
        switch (what) {
            case 0:
                return now.seen.length;
            case 1:
                return now.events.length;
            case 2:
                return now.book.length;
            case 3:
                return text.length;
            default:
                return BAD;
        }
    }

    public int tape(int tape, int sort, int n) {
        if (!isTape(tape)) {
            return NONE;
        }
        if (sort == HOLDS_NOTHING) {
            tapes[tape].hold(HOLDS_NOTHING, 0);
            return 1;
        }
        if (sort < 0 || sort >= SORTS || n > MOST_ITEMS) {
            return BAD;
        }
        if (n < 0) {
            return SIZE;
        }
        tapes[tape].hold(sort, n);
        return 1;
    }

    public int item(int tape, int i, long v) {
        if (!isTape(tape)) {
            return NONE;
        }
        Tape target = tapes[tape];
        if (target.sort == HOLDS_NOTHING) {
            return NOTHING;
        }
        if (!target.has(i)) {
            return PLACE;
        }
        target.items[i] = target.cut(v);
        return 1;
    }

    public long peek(int tape, int i) {
        return isTape(tape) && tapes[tape].has(i) ? tapes[tape].items[i] : NO;
    }

    public int shift(int tape, int i, int other, int j, int n) {
        if (!isTape(tape) || !isTape(other)) {
            return NONE;
        }
        Tape from = tapes[tape];
        Tape to = tapes[other];
        if (from.sort == HOLDS_NOTHING || to.sort == HOLDS_NOTHING) {
            return NOTHING;
        }
        if (from.sort != to.sort) {
            return CAST;
        }
        if (!from.hasRun(i, n) || !to.hasRun(j, n)) {
            return PLACE;
        }
        System.arraycopy(from.items, i, to.items, j, n);
        return n;
    }

    // ---- what several calls share

    private static boolean isStatistic(int what) {
        return what >= 0 && what < STATISTICS;
    }

    private static boolean isHow(int how) {
        return how >= 0 && how < HOWS;
    }

    private static boolean isLetter(int value) {
        return value >= -MOST_LETTER && value <= MOST_LETTER;
    }

    private static boolean isPart(int part) {
        return part == 0 || part == 1;
    }

    private static boolean isTape(int tape) {
        return tape >= 0 && tape < TAPES;
    }

    private static long power(int base, int exponent) {
        long product = 1;
        for (int k = 0; k < exponent; k++) {
            product *= base;
        }
        return product;
    }

    private static long inLowestTerms(int above, int below, int part) {
        int divisor = commonDivisor(above, below);
        if (divisor == 0) {
            return NO;
        }
        return part == 0 ? above / divisor : below / divisor;
    }

    private static int commonDivisor(int first, int second) {
        int larger = first;
        int smaller = second;
        // each turn leaves a smaller remainder, so there are never more turns than the second number
        for (int turn = 0; turn <= second && smaller != 0; turn++) {
            int rest = larger % smaller;
            larger = smaller;
            smaller = rest;
        }
        return larger;
    }

    private boolean resized(int n) {
        if (n < LEAST_N || n > MOST_N) {
            return false;
        }
        now.begin(tables[n - LEAST_N]);
        return true;
    }

    private int clausesDone() {
        int done = 0;
        int from = 0;
        for (int clause = 0; clause < MOST_CLAUSES && from < text.length; clause++) {
            int end = text.clauseEnd(from);
            if (clauseDone(from, end)) {
                done++;
            }
            from = end + 1;
        }
        return done;
    }

    private boolean clauseDone(int from, int end) {
        PathTable table = now.table;
        int lastDigit = text.digitAt(end - 1);
        switch (text.signAt(from)) {
            case 's':
                return resized(lastDigit);
            case 'p':
                return now.become(text.pathNumber(from + Script.PATH.length(), end, table));
            case 'm':
                return now.become(table.carriedTo(MAP, now.chosen));
            case 't':
                return now.become(table.carriedTo(TURN, now.chosen));
            case 'u':
                return now.become(table.raised(now.chosen, lastDigit));
            case 'd':
                return now.become(table.lowered(now.chosen, lastDigit));
            case 'l':
                return relabelled(from + Script.LABEL.length(), end);
            default:
                return false;
        }
    }

    private boolean relabelled(int from, int end) {
        int n = now.table.n;
        if (end - from != n || !text.hasEachDigitOnce(from, n)) {
            return false;
        }
        for (int i = 0; i < n; i++) {
            now.labels[i] = text.digitAt(from + i);
        }
        return true;
    }

    /**
     * All PATHS of one n by their numbers, with all that hangs on a PATH alone. A PATH's word has a
     * bit for each STEP, the first one highest, 1 for n: so greater words have smaller numbers.
     */
    private static final class PathTable {
        final int n;
        final int steps;
        final int paths;
        final int[] words = new int[MOST_PATHS];
        final int[][] statistics = new int[STATISTICS][MOST_PATHS];
        final int[][] carried = new int[HOWS][MOST_PATHS];
        final int[] labellings = new int[MOST_PATHS];

        PathTable(int n) {
            this.n = n;
            steps = 2 * n;
            int found = 0;
            for (int word = (1 << steps) - 1; word >= 0 && found < MOST_PATHS; word--) {
                if (isPathWord(word)) {
                    words[found] = word;
                    found++;
                }
            }
            paths = found;
            for (int path = 0; path < paths; path++) {
                fillFigures(path);
            }
        }

        private void fillFigures(int path) {
            int word = words[path];
            statistics[AREA][path] = areaOf(word);
            statistics[BOUNCE][path] = bounceOf(word);
            statistics[TWOS][path] = twosOf(word);
            statistics[PEAKS][path] = peaksOf(word);
            statistics[TOUCHES][path] = touchesOf(word);
            carried[TURN][path] = numberOf(turnOf(word));
            labellings[path] = countLabellings(word);
            int image = numberOf(mapOf(word));
            carried[MAP][path] = image;
            if (isNumber(image)) {
                carried[BACK][image] = path;
            }
        }

        boolean isNumber(int path) {
            return path >= 0 && path < paths;
        }

        int wordOf(int path) {
            return isNumber(path) ? words[path] : 0;
        }

        int figure(int what, int path) {
            return isStatistic(what) && isNumber(path) ? statistics[what][path] : NONE;
        }

        int carriedTo(int how, int path) {
            return isHow(how) && isNumber(path) ? carried[how][path] : NONE;
        }

        int labellingsOf(int path) {
            return isNumber(path) ? labellings[path] : NONE;
        }

        int allLabellings() {
            int all = 0;
            for (int path = 0; path < paths; path++) {
                all += labellingsOf(path);
            }
            return all;
        }

        int total(int what) {
            int total = 0;
            for (int path = 0; path < paths; path++) {
                total += figure(what, path);
            }
            return total;
        }

        boolean isTurningPlace(int i) {
            return i >= 0 && i <= steps - 2;
        }

        int numberOf(int word) {
            for (int path = 0; path < paths; path++) {
                if (words[path] == word) {
                    return path;
                }
            }
            return NONE;
        }

        int stepIn(int word, int i) {
            return word >> (steps - 1 - i) & 1;
        }

        private boolean isPathWord(int word) {
            int height = 0;
            for (int i = 0; i < steps && height >= 0; i++) {
                height += stepIn(word, i) == STEP_N ? 1 : -1;
            }
            return height == 0;
        }

        int rowIn(int word, int i) {
            int ups = 0;
            for (int k = 0; k < steps; k++) {
                if (stepIn(word, k) == STEP_N) {
                    if (ups == i) {
                        return i - (k - ups);
                    }
                    ups++;
                }
            }
            return 0;
        }

        /** Whether STEP n number i stands right behind STEP n number i - 1: just then its ROW is one more. */
        boolean risesAt(int word, int i) {
            return i > 0 && rowIn(word, i) == rowIn(word, i - 1) + 1;
        }

        private int areaOf(int word) {
            int area = 0;
            for (int i = 0; i < n; i++) {
                area += rowIn(word, i);
            }
            return area;
        }

        private int bounceOf(int word) {
            int bounce = 0;
            int d = 0;
            // d grows by one at least each time, for a PATH has more than d STEPS n ahead of that STEP e
            for (int k = 0; k < n && d < n; k++) {
                d = upsAhead(word, d);
                bounce += n - d;
            }
            return bounce;
        }

        private int upsAhead(int word, int alongNumber) {
            int alongs = 0;
            for (int k = 0; k < steps; k++) {
                if (stepIn(word, k) == STEP_E) {
                    if (alongs == alongNumber) {
                        return k - alongs;
                    }
                    alongs++;
                }
            }
            return n;
        }

        private int twosOf(int word) {
            int twos = 0;
            for (int i = 0; i < n; i++) {
                for (int j = i + 1; j < n; j++) {
                    int more = rowIn(word, i) - rowIn(word, j);
                    if (more == 0 || more == 1) {
                        twos++;
                    }
                }
            }
            return twos;
        }

        private int peaksOf(int word) {
            int peaks = 0;
            for (int i = 0; i + 1 < steps; i++) {
                if (stepIn(word, i) == STEP_N && stepIn(word, i + 1) == STEP_E) {
                    peaks++;
                }
            }
            return peaks;
        }

        private int touchesOf(int word) {
            int touches = 0;
            for (int i = 0; i < n; i++) {
                if (rowIn(word, i) == 0) {
                    touches++;
                }
            }
            return touches;
        }

        private int mapOf(int word) {
            int image = 0;
            for (int k = 0; k <= n; k++) {
                for (int i = 0; i < n; i++) {
                    int row = rowIn(word, i);
                    if (row == k) {
                        image = image << 1 | STEP_N;
                    } else if (row == k - 1) {
                        image = image << 1 | STEP_E;
                    }
                }
            }
            return image;
        }

        private int turnOf(int word) {
            int turned = 0;
            for (int i = steps - 1; i >= 0; i--) {
                turned = turned << 1 | (stepIn(word, i) == STEP_N ? STEP_E : STEP_N);
            }
            return turned;
        }

        /** All orders of LABELS, of which each run of STEPS n leaves but one of its own orders. */
        private int countLabellings(int word) {
            int orders = 1;
            int ordersOfRuns = 1;
            int run = 0;
            for (int i = 0; i < n; i++) {
                run = risesAt(word, i) ? run + 1 : 1;
                orders *= i + 1;
                ordersOfRuns *= run;
            }
            return ordersOfRuns > 0 ? orders / ordersOfRuns : 0;
        }

        int raised(int path, int i) {
            return withExchangedSteps(path, i, STEP_E, STEP_N);
        }

        int lowered(int path, int i) {
            return withExchangedSteps(path, i, STEP_N, STEP_E);
        }

        private int withExchangedSteps(int path, int i, int first, int second) {
            if (!isNumber(path) || !isTurningPlace(i)) {
                return NONE;
            }
            int word = wordOf(path);
            if (stepIn(word, i) != first || stepIn(word, i + 1) != second) {
                return NONE;
            }
            return numberOf(word ^ 3 << (steps - 2 - i));
        }

        int round(int path) {
            int times = 1;
            int at = carriedTo(MAP, path);
            // MAP takes no two PATHS to one, so it comes round within as many times as there are PATHS
            while (at != path && times < paths) {
                at = carriedTo(MAP, at);
                times++;
            }
            return times;
        }
    }

    /** All that THE IMAGE keeps: n with its PATHS, CHOSEN, LABELS, SEEN, EVENTS, the BOOK. */
    private static final class Setting {
        PathTable table;
        int chosen;
        final int[] labels = new int[MOST_N];
        final PairList seen = new PairList(MOST_SEEN);
        final PairList events = new PairList(MOST_EVENTS);
        final PairList book = new PairList(MOST_BOOK);

        Setting(PathTable table) {
            begin(table);
        }

        void begin(PathTable newTable) {
            table = newTable;
            become(0);
        }

        void takeFrom(Setting other) {
            table = other.table;
            chosen = other.chosen;
            System.arraycopy(other.labels, 0, labels, 0, MOST_N);
            seen.takeFrom(other.seen);
            events.takeFrom(other.events);
            book.takeFrom(other.book);
        }

        boolean become(int path) {
            if (!table.isNumber(path)) {
                return false;
            }
            chosen = path;
            for (int i = 0; i < MOST_N; i++) {
                labels[i] = i + 1;
            }
            return true;
        }

        private int word() {
            return table.wordOf(chosen);
        }

        boolean toldWell() {
            for (int i = 1; i < table.n; i++) {
                if (table.risesAt(word(), i) && labels[i] < labels[i - 1]) {
                    return false;
                }
            }
            return true;
        }

        int placeAsked(int car) {
            for (int i = 0; i < table.n; i++) {
                if (labels[i] == car) {
                    return i - table.rowIn(word(), i);
                }
            }
            return 0;
        }

        int placeTaken(int lastCar) {
            int taken = 0;
            int place = 0;
            for (int car = 1; car <= lastCar; car++) {
                place = placeAsked(car);
                while (place < table.n && (taken >> place & 1) != 0) {
                    place++;
                }
                taken |= 1 << place;
            }
            return place;
        }

        int lateness() {
            int late = 0;
            for (int car = 1; car <= table.n; car++) {
                late += placeTaken(car) - placeAsked(car);
            }
            return late;
        }

        int signWritten(int i) {
            int length = 0;
            int ups = 0;
            for (int k = 0; k < table.steps; k++) {
                boolean up = table.stepIn(word(), k) == STEP_N;
                if (length == i) {
                    return up ? 'n' : 'e';
                }
                length++;
                if (up && ups < table.n) {
                    if (length == i) {
                        return '0' + labels[ups];
                    }
                    length++;
                    ups++;
                }
            }
            return NOT_SO;
        }

        int fittingLabellings() {
            for (int k = 0; k < seen.length; k++) {
                if (seen.first[k] >= table.n) {
                    return 0;
                }
            }
            return fittingFrom(this, 0, 0, 0);
        }

        /** How many ways there are from STEP n i on; used has a bit for each LABEL that is told ahead of it. */
        private static int fittingFrom(Setting setting, int i, int used, int labelAhead) {
            PathTable table = setting.table;
            if (i >= table.n) {
                return 1;
            }
            int fitting = 0;
            int least = table.risesAt(setting.word(), i) ? labelAhead + 1 : 1;
            for (int label = least; label <= table.n; label++) {
                if ((used >> label & 1) == 0 && setting.isAsSeen(i, label)) {
                    fitting += fittingFrom(setting, i + 1, used | 1 << label, label);
                }
            }
            return fitting;
        }

        private boolean isAsSeen(int i, int label) {
            for (int k = 0; k < seen.length; k++) {
                if (seen.first[k] == i && seen.second[k] != label) {
                    return false;
                }
            }
            return true;
        }

        int pathAfterEvents() {
            int path = chosen;
            for (int k = 0; k < events.length; k++) {
                int next = pathAfterOne(path, events.first[k], events.second[k]);
                if (table.isNumber(next)) {
                    path = next;
                }
            }
            return path;
        }

        private int pathAfterOne(int path, int kind, int place) {
            switch (kind) {
                case TO_MAP:
                    return table.carriedTo(MAP, path);
                case TO_TURN:
                    return table.carriedTo(TURN, path);
                case TO_RAISE:
                    return table.raised(path, place);
                case TO_LOWER:
                    return table.lowered(path, place);
                default:
                    return NONE;
            }
        }

        int firstWrongInBook() {
            for (int k = 0; k < book.length; k++) {
                // a PATH that is not there has the AREA NONE, which no row tells
                if (table.figure(AREA, book.first[k]) != book.second[k]) {
                    return k;
                }
            }
            return NOT_SO;
        }

        int firstOtherRow(Tape told, int from) {
            for (int i = 0; i < table.n; i++) {
                // asked this way round, no place is too great to be added to
                if (from < 0 || from >= told.length - i) {
                    return TOO_SHORT + i;
                }
                if (told.items[from + i] != table.rowIn(word(), i)) {
                    return i;
                }
            }
            return NOT_SO;
        }
    }

    /** Rows of two numbers, as many as a limit allows. */
    private static final class PairList {
        final int[] first;
        final int[] second;
        int length;

        PairList(int limit) {
            first = new int[limit];
            second = new int[limit];
        }

        boolean append(int one, int two) {
            if (length >= first.length) {
                return false;
            }
            first[length] = one;
            second[length] = two;
            length++;
            return true;
        }

        int emptied() {
            length = 0;
            return length;
        }

        void takeFrom(PairList other) {
            length = Math.min(other.length, first.length);
            System.arraycopy(other.first, 0, first, 0, length);
            System.arraycopy(other.second, 0, second, 0, length);
        }
    }

    /** THE TEXT, and how its CLAUSES are told apart: by their first letters, which are all unlike. */
    private static final class Script {
        static final String PATH = "path ", LABEL = "label ";

        final byte[] signs = new byte[MOST_SIGNS];
        int length;
        private int cursor;

        boolean append(int sign) {
            if (length >= MOST_SIGNS) {
                return false;
            }
            signs[length] = (byte) sign;
            length++;
            return true;
        }

        int signAt(int place) {
            return place >= 0 && place < length ? signs[place] : END;
        }

        int digitAt(int place) {
            return signAt(place) - '0';
        }

        int fault() {
            cursor = 0;
            for (int clause = 1; clause <= MOST_CLAUSES; clause++) {
                if (!passClause()) {
                    return cursor;
                }
                if (cursor >= length) {
                    return SOUND;
                }
                if (signAt(cursor) != ';' || clause == MOST_CLAUSES) {
                    return cursor;
                }
                cursor++;
            }
            return cursor;
        }

        /** Goes on to the end of a CLAUSE; if there is none, to the FAULT. */
        private boolean passClause() {
            int letter = signAt(cursor);
            String word = wordBeginning(letter);
            if (word.isEmpty()) {
                return false;
            }
            for (int k = 0; k < word.length(); k++) {
                if (signAt(cursor) != word.charAt(k)) {
                    return false;
                }
                cursor++;
            }
            int most = mostFigures(letter);
            int passed = 0;
            while (passed < most && isFigure(letter, signAt(cursor))) {
                cursor++;
                passed++;
            }
            return most == 0 || passed > 0;
        }

        private static String wordBeginning(int letter) {
            switch (letter) {
                case 's':
                    return "size ";
                case 'p':
                    return PATH;
                case 'm':
                    return "map";
                case 't':
                    return "turn";
                case 'u':
                    return "up ";
                case 'd':
                    return "down ";
                case 'l':
                    return LABEL;
                default:
                    return "";
            }
        }

        private static int mostFigures(int letter) {
            switch (letter) {
                case 'm':
                case 't':
                    return 0;
                case 'p':
                    return 2 * MOST_N;
                case 'l':
                    return MOST_N;
                default:
                    return 1;
            }
        }

        private static boolean isFigure(int letter, int sign) {
            if (letter == 'p') {
                return sign == 'n' || sign == 'e';
            }
            return sign >= '0' && sign <= '9';
        }

        int clauseEnd(int from) {
            int end = from;
            while (end < length && signAt(end) != ';') {
                end++;
            }
            return end;
        }

        int pathNumber(int from, int end, PathTable table) {
            if (end - from != table.steps) {
                return NONE;
            }
            int word = 0;
            for (int place = from; place < end; place++) {
                word = word << 1 | (signAt(place) == 'n' ? STEP_N : STEP_E);
            }
            return table.numberOf(word);
        }

        boolean hasEachDigitOnce(int from, int n) {
            int had = 0;
            for (int k = 0; k < n; k++) {
                int digit = digitAt(from + k);
                if (digit < 1 || digit > n || (had >> digit & 1) != 0) {
                    return false;
                }
                had |= 1 << digit;
            }
            return true;
        }
    }

    /** A TAPE; whatever its sort, its items are kept as longs, cut as the sort would cut them. */
    private static final class Tape {
        int sort = HOLDS_NOTHING;
        int length;
        final long[] items = new long[MOST_ITEMS];

        void hold(int newSort, int newLength) {
            sort = newSort;
            length = newLength;
            for (int i = 0; i < MOST_ITEMS; i++) {
                items[i] = 0;
            }
        }

        boolean has(int i) {
            return i >= 0 && i < length;
        }

        boolean hasRun(int from, int n) {
            return n >= 0 && from >= 0 && from <= length - n;
        }

        long cut(long value) {
            switch (sort) {
                case BYTES:
                    return (byte) value;
                case SHORTS:
                    return (short) value;
                case INTS:
                    return (int) value;
                case LONGS:
                    return value;
                default:
                    return value != 0 ? 1 : 0;
            }
        }
    }
}
