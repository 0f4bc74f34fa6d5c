import java.util.ArrayList;
import java.util.Arrays;
import java.util.List;

/** Boundary cases of LABELS and cars, of promises 7, 15 and 16 and of told 3, 4 and 6: a test for each sentence. */
public final class EdgeLabelsTest {
    private static final Due due = new Due("EdgeLabelsTest");

    public static void main(String[] args) {
        beginAnew();
        exchangeAndWell();
        carsAndLabel();
        writtenAndWays();
        due.end();
    }

    private static void beginAnew() {
        due.sentence("of each STEP n of CHOSEN one, unlike numbers 1 .. n", EdgeLabelsTest::eachOnce);
        due.sentence("(1, 2, .. at first", EdgeLabelsTest::atFirst);
        due.sentence("and whenever CHOSEN is told to become a PATH, be it the same", EdgeLabelsTest::anewByTheSame);
        due.sentence("not by a call that is refused)", EdgeLabelsTest::notByRefusedCalls);
        String anew = "LABELS begin anew by each of size, choose, becomes, raise and lower that is not refused";
        due.sentence(anew, () -> anewBy("size", x -> x.size(3)));
        due.sentence(anew, () -> anewBy("choose", x -> x.choose(4)));
        due.sentence(anew, () -> anewBy("becomes its MAP", x -> x.becomes(0)));
        due.sentence(anew, () -> anewBy("becomes what it is TURNED", x -> x.becomes(1)));
        due.sentence(anew, () -> anewBy("becomes BACK", x -> x.becomes(2)));
        due.sentence(anew, () -> anewBy("raise", x -> x.raise(3)));
        due.sentence(anew, () -> anewBy("lower", x -> x.lower(1)));
        String clauses = "and by the CLAUSES size, path, map, turn, up and down";
        for (String clause : new String[] {"size 3", "path nneene", "map", "turn", "up 3", "down 1"}) {
            due.sentence(clauses, () -> anewBy(clause, x -> Stairs.read(x, clause)));
        }
        due.sentence("those that would be refused aren't", EdgeLabelsTest::notByRefusedClauses);
        due.sentence("what is asked changes nothing", EdgeLabelsTest::notByWhatComesToLists);
    }

    private static void exchangeAndWell() {
        due.sentence("whether they are told well then (1, 0)", EdgeLabelsTest::exchangeWithinARun);
        due.sentence("if of two STEPS n, one right behind the other, the latter's is greater", EdgeLabelsTest::noTwoBehind);
        due.sentence("if of two STEPS n, one right behind the other, the latter's is greater", EdgeLabelsTest::eachTwoBehind);
        due.sentence("if of two STEPS n, one right behind the other, the latter's is greater", EdgeLabelsTest::overTheEnds);
        due.sentence("LABELS of STEPS n i and j (from 0) change places", EdgeLabelsTest::exchangeFirstAndLast);
        due.sentence("NONE: either, one twice.", EdgeLabelsTest::exchangeBelow);
        due.sentence("NONE: either, one twice.", EdgeLabelsTest::exchangeBehind);
        due.sentence("NONE: either, one twice.", EdgeLabelsTest::exchangeOneTwice);
    }

    private static void carsAndLabel() {
        due.sentence("how many STEPS e are ahead of the STEP n that has it (0 ..)", EdgeLabelsTest::leastAndGreatestAsked);
        due.sentence("Car 1 first, then 2, ..", EdgeLabelsTest::carsInTheirOrder);
        due.sentence("each takes the first free place of its own or behind", EdgeLabelsTest::ownPlaceOrBehind);
        due.sentence("(places 0 .. n - 1; there always is one)", EdgeLabelsTest::alwaysAPlace);
        due.sentence("LATE: how far all cars are from what they asked, together.", EdgeLabelsTest::leastAndGreatestLate);
        due.sentence("4 LATE (-5: they aren't)", EdgeLabelsTest::lateOfLabelsNotWell);
        due.sentence("3 whether LABELS are told well (1, 0)", EdgeLabelsTest::toldWell);
        due.sentence("the place that car i + 1 asks for (1), takes (2). NONE: i, what", EdgeLabelsTest::labelOfFirstAndLast);
        due.sentence("the place that car i + 1 asks for (1), takes (2). NONE: i, what", EdgeLabelsTest::labelBelow);
        due.sentence("the place that car i + 1 asks for (1), takes (2). NONE: i, what", EdgeLabelsTest::labelBehind);
        due.sentence("the place that car i + 1 asks for (1), takes (2). NONE: i, what", EdgeLabelsTest::labelOfNoSuchWhat);
        due.sentence("STATE: LABELS aren't told well (1, 2).", EdgeLabelsTest::labelNotWell);
    }

    private static void writtenAndWays() {
        due.sentence("its STEPS, n and e, each n followed by its LABEL.", EdgeLabelsTest::writtenFirstAndLast);
        due.sentence("its STEPS, n and e, each n followed by its LABEL.", EdgeLabelsTest::writtenEverywhere);
        due.sentence("Sign i of what is WRITTEN (its byte); -5: there are not as many.", EdgeLabelsTest::writtenBehind);
        due.sentence("NONE: i below 0.", EdgeLabelsTest::writtenBelow);
        due.sentence("WAYS of a PATH: in how many ways LABELS can be told well of it.", EdgeLabelsTest::fewestAndMostWays);
    }

    interface Call {
        long on(StairPaths x);
    }

    // ---- LABELS begin anew

    private static void eachOnce() {
        for (int n = 2; n <= 5; n++) {
            StairPaths x = Stairs.of(n, Stairs.lastPath(n));
            for (int k = 0; k < 24; k++) {
                x.exchange(k % n, (k + k / n % (n - 1) + 1) % n);
                char[] labels = Stairs.labels(x).toCharArray();
                Arrays.sort(labels);
                due.is("LABELS by their size", "12345".substring(0, n), new String(labels));
            }
        }
    }

    private static void atFirst() {
        due.is("LABELS of a new object", "123", Stairs.labels(new StairPaths()));
        for (int n = 2; n <= 5; n++) {
            StairPaths x = new StairPaths();
            x.size(n);
            due.is("LABELS behind size(" + n + ")", "12345".substring(0, n), Stairs.labels(x));
        }
    }

    private static void anewByTheSame() {
        anewOf("nnenee", "choose what it is", x -> x.choose(1));
        anewOf("nnneee", "size that it has", x -> x.size(3));
        anewOf("nnenee", "becomes(1) of what it is", x -> x.becomes(1));
        anewOf("nnenneeene", "becomes(0) of what it is", x -> x.becomes(0));
        anewOf("nnenneeene", "becomes(2) of what it is", x -> x.becomes(2));
        anewOf("nnenee", "path of what it is", x -> Stairs.read(x, "path nnenee"));
        anewOf("nnenee", "turn of what it is", x -> Stairs.read(x, "turn"));
        anewOf("nnenneeene", "map of what it is", x -> Stairs.read(x, "map"));
    }

    private static void anewOf(String word, String told, Call call) {
        String back = "54321".substring(5 - word.length() / 2);
        StairPaths x = Stairs.of(word, back);
        due.is("LABELS ahead of " + told, back, Stairs.labels(x));
        call.on(x);
        due.is("CHOSEN behind " + told, Stairs.number(word), x.told(2));
        due.is("LABELS behind " + told, "12345".substring(0, word.length() / 2), Stairs.labels(x));
    }

    private static void notByRefusedCalls() {
        StairPaths x = Stairs.of("nennee", "231");
        long[] answers = {x.size(1), x.size(6), x.choose(-1), x.choose(5), x.becomes(-1), x.becomes(3), x.raise(-1),
            x.raise(5), x.raise(0), x.lower(-1), x.lower(5), x.lower(1), x.exchange(0, 0), x.exchange(0, 3)};
        int[] want = {-2, -2, -1, -1, -1, -1, -2, -2, -3, -2, -2, -3, -1, -1};
        for (int k = 0; k < answers.length; k++) {
            due.is("refused call " + k, want[k], answers[k]);
        }
        due.is("LABELS", "231", Stairs.labels(x));
    }

    private static void anewBy(String told, Call call) {
        StairPaths x = Stairs.of("nneene", "312");
        call.on(x);
        due.is("LABELS behind " + told, "123", Stairs.labels(x));
    }

    private static void notByRefusedClauses() {
        for (String clause : new String[] {"size 1", "size 6", "path nnee", "path neenne", "up 0", "up 9", "down 0",
            "down 9", "label 113", "label 12"}) {
            StairPaths x = Stairs.of("nneene", "312");
            due.is("CLAUSES done of " + clause, 0, Stairs.read(x, clause));
            due.is("LABELS behind " + clause, "312", Stairs.labels(x));
        }
    }

    private static void notByWhatComesToLists() {
        StairPaths x = Stairs.of("nneene", "312");
        x.see(0, 1);
        x.event(0, 0);
        x.after(0);
        x.book(0, 0);
        x.looked();
        x.fits();
        x.ways(-1);
        x.mapped(2, 0);
        x.image();
        Stairs.read(x, "map;");
        x.read();
        due.is("LABELS", "312", Stairs.labels(x));
    }

    // ---- exchange, told well

    private static void exchangeWithinARun() {
        for (int n = 2; n <= 5; n++) {
            for (int i = 0; i + 1 < n; i++) {
                StairPaths x = Stairs.of(n, 0);
                due.is("exchange(" + i + ", " + (i + 1) + ") of PATH 0", 0, x.exchange(i, i + 1));
                due.is("told(3)", 0, x.told(3));
                due.is("and back", 1, x.exchange(i + 1, i));
                due.is("told(3)", 1, x.told(3));
            }
        }
    }

    private static void noTwoBehind() {
        for (int n = 2; n <= 5; n++) {
            StairPaths x = Stairs.of(n, Stairs.lastPath(n));
            for (int i = 0; i < n; i++) {
                for (int j = 0; j < n; j++) {
                    due.is("exchange of the last PATH", i == j ? StairPaths.NONE : 1, x.exchange(i, j));
                }
            }
            Stairs.tell(x, "54321".substring(5 - n));
            due.is("told(3) of LABELS that fall", 1, x.told(3));
        }
    }

    private static void eachTwoBehind() {
        due.is("the first two of nnenneeene", 0, Stairs.of("nnenneeene", "21345").told(3));
        due.is("the last two of its second run", 0, Stairs.of("nnenneeene", "12435").told(3));
        due.is("the last two of nnneneee", 0, Stairs.of("nnneneee", "1324").told(3));
        due.is("the last two of nenenennee", 0, Stairs.of("nenenennee", "12354").told(3));
        due.is("just one greater each", 1, Stairs.of("nnenneeene", "34125").told(3));
    }

    private static void overTheEnds() {
        due.is("from run to run of nnenneeene", 1, Stairs.of("nnenneeene", "45231").told(3));
        due.is("behind nnne, a smaller one", 1, Stairs.of("nnneneee", "2341").told(3));
        due.is("ahead of ennn, a greater one", 1, Stairs.of("nennneee", "4123").told(3));
    }

    private static void exchangeFirstAndLast() {
        for (int n = 2; n <= 5; n++) {
            StairPaths x = Stairs.of(n, Stairs.lastPath(n));
            due.is("exchange(0, n - 1)", 1, x.exchange(0, n - 1));
            due.is("the first LABEL", n, x.label(0, 0));
            due.is("the last LABEL", 1, x.label(n - 1, 0));
            due.is("exchange(n - 1, 0)", 1, x.exchange(n - 1, 0));
            due.is("LABELS", "12345".substring(0, n), Stairs.labels(x));
        }
    }

    private static void exchangeBelow() {
        StairPaths x = Stairs.of("nneene", "132");
        for (int i : new int[] {-1, -2, Stairs.MIN}) {
            due.is("exchange(" + i + ", 0)", StairPaths.NONE, x.exchange(i, 0));
            due.is("exchange(0, " + i + ")", StairPaths.NONE, x.exchange(0, i));
        }
        due.is("LABELS", "132", Stairs.labels(x));
    }

    private static void exchangeBehind() {
        for (int n = 2; n <= 5; n++) {
            StairPaths x = Stairs.of(5, 0);
            x.size(n);
            for (int i : new int[] {n, n + 1, 32, Stairs.MAX}) {
                due.is("exchange(" + i + ", 0)", StairPaths.NONE, x.exchange(i, 0));
                due.is("exchange(0, " + i + ")", StairPaths.NONE, x.exchange(0, i));
            }
            due.is("LABELS", "12345".substring(0, n), Stairs.labels(x));
        }
    }

    private static void exchangeOneTwice() {
        for (int n = 2; n <= 5; n++) {
            StairPaths x = Stairs.of(n, 0);
            for (int i = -1; i <= n; i++) {
                due.is("exchange(" + i + ", " + i + ")", StairPaths.NONE, x.exchange(i, i));
            }
            due.is("LABELS", "12345".substring(0, n), Stairs.labels(x));
        }
    }

    // ---- cars, label

    private static void leastAndGreatestAsked() {
        for (int n = 2; n <= 5; n++) {
            StairPaths first = Stairs.of(n, 0);
            StairPaths last = Stairs.of(n, Stairs.lastPath(n));
            for (int i = 0; i < n; i++) {
                due.is("car " + (i + 1) + " of PATH 0 asks", 0, first.label(i, 1));
                due.is("car " + (i + 1) + " of the last PATH asks", i, last.label(i, 1));
            }
            last.exchange(0, n - 1);
            due.is("car 1 of the last STEP n asks", n - 1, last.label(0, 1));
            due.is("car n of the first STEP n asks", 0, last.label(n - 1, 1));
        }
    }

    private static String taken(StairPaths x) {
        StringBuilder taken = new StringBuilder();
        for (int i = 0; i < x.told(0); i++) {
            taken.append(x.label(i, 2));
        }
        return taken.toString();
    }

    private static void carsInTheirOrder() {
        due.is("taken by cars that ask 0 1 0", "012", taken(Stairs.of("nnenee", "132")));
        due.is("taken by cars that ask 1 0 0", "102", taken(Stairs.of("nnenee", "231")));
        due.is("taken by cars that ask 0 0 1", "012", taken(Stairs.of("nnenee", "123")));
        due.is("taken by cars that ask 1 1 0 0, and 2 behind", "12034", taken(Stairs.of("nnenneneee", "34125")));
    }

    private static void ownPlaceOrBehind() {
        StairPaths x = Stairs.of("nenenenene", "53241");
        for (int i = 0; i < 5; i++) {
            due.is("each takes its own, car " + (i + 1), x.label(i, 1), x.label(i, 2));
        }
        due.is("one of them behind a full one takes the next", "01", taken(Stairs.of("nnee")));
        due.is("a car that asks 1 leaves 0 free for the next", "10", taken(Stairs.of("nene", "21")));
        due.is("over two that are full, cars that ask 0 1 0", "012", taken(Stairs.of("nnenee", "132")));
    }

    private static void alwaysAPlace() {
        for (int n = 2; n <= 5; n++) {
            List<String> orders = new ArrayList<>();
            addOrders("", n, orders);
            for (String word : Stairs.words(n)) {
                for (String order : orders) {
                    StairPaths x = Stairs.of(word, order);
                    if (x.told(3) == 1) {
                        char[] taken = taken(x).toCharArray();
                        Arrays.sort(taken);
                        due.is("taken of " + word + " " + order, "01234".substring(0, n), new String(taken));
                    }
                }
            }
        }
    }

    private static void addOrders(String ahead, int n, List<String> orders) {
        if (ahead.length() == n) {
            orders.add(ahead);
        }
        for (char label = '1'; label < '1' + n; label++) {
            if (ahead.indexOf(label) < 0) {
                addOrders(ahead + label, n, orders);
            }
        }
    }

    private static void leastAndGreatestLate() {
        for (int n = 2; n <= 5; n++) {
            due.is("LATE of PATH 0", n * (n - 1) / 2, Stairs.of(n, 0).told(4));
            StairPaths x = Stairs.of(n, Stairs.lastPath(n));
            due.is("LATE of the last PATH", 0, x.told(4));
            x.exchange(0, n - 1);
            due.is("LATE of the last PATH by other LABELS", 0, x.told(4));
        }
    }

    private static void lateOfLabelsNotWell() {
        for (int n = 2; n <= 5; n++) {
            StairPaths x = Stairs.of(n, 0);
            x.exchange(n - 2, n - 1);
            due.is("told(4)", -5, x.told(4));
            x.exchange(n - 2, n - 1);
            due.is("told(4) again", n * (n - 1) / 2, x.told(4));
        }
    }

    private static void toldWell() {
        StairPaths x = new StairPaths();
        due.is("told(3) of a new object", 1, x.told(3));
        x.exchange(0, 2);
        due.is("told(3) of LABELS 3 2 1", 0, x.told(3));
        x.exchange(0, 1);
        due.is("told(3) of LABELS 2 3 1", 0, x.told(3));
        x.choose(0);
        due.is("told(3) anew", 1, x.told(3));
    }

    private static void labelOfFirstAndLast() {
        for (int n = 2; n <= 5; n++) {
            StairPaths x = Stairs.of(n, 0);
            for (int what = 0; what < 3; what++) {
                due.is("label(0, " + what + ")", what == 0 ? 1 : 0, x.label(0, what));
                due.is("label(n - 1, " + what + ")", what == 0 ? n : what == 1 ? 0 : n - 1, x.label(n - 1, what));
            }
        }
    }

    private static void labelBelow() {
        StairPaths x = new StairPaths();
        for (int what = 0; what < 3; what++) {
            due.is("label(-1, " + what + ")", StairPaths.NONE, x.label(-1, what));
            due.is("label(MIN, " + what + ")", StairPaths.NONE, x.label(Stairs.MIN, what));
        }
    }

    private static void labelBehind() {
        for (int n = 2; n <= 5; n++) {
            StairPaths x = Stairs.of(n, 0);
            for (int what = 0; what < 3; what++) {
                due.is("label(n, " + what + ")", StairPaths.NONE, x.label(n, what));
                due.is("label(MAX, " + what + ")", StairPaths.NONE, x.label(Stairs.MAX, what));
            }
        }
    }

    private static void labelOfNoSuchWhat() {
        StairPaths x = new StairPaths();
        for (int what : new int[] {-1, 3, Stairs.MIN, Stairs.MAX}) {
            due.is("label(0, " + what + ")", StairPaths.NONE, x.label(0, what));
        }
    }

    private static void labelNotWell() {
        StairPaths x = Stairs.of("nnenee", "312");
        for (int i = 0; i < 3; i++) {
            due.is("label(" + i + ", 0)", "312".charAt(i) - '0', x.label(i, 0));
            due.is("label(" + i + ", 1)", StairPaths.STATE, x.label(i, 1));
            due.is("label(" + i + ", 2)", StairPaths.STATE, x.label(i, 2));
        }
        due.is("label(3, 1): NONE is named first", StairPaths.NONE, x.label(3, 1));
        due.is("label(-1, 2): NONE is named first", StairPaths.NONE, x.label(-1, 2));
        due.is("label(0, 3): NONE is named first", StairPaths.NONE, x.label(0, 3));
    }

    // ---- written, WAYS

    private static void writtenFirstAndLast() {
        for (int n = 2; n <= 5; n++) {
            for (int path : new int[] {0, Stairs.lastPath(n)}) {
                StairPaths x = Stairs.of(n, path);
                due.is("written(0)", 'n', x.written(0));
                due.is("written(1)", '1', x.written(1));
                due.is("the last sign", 'e', x.written(3 * n - 1));
            }
            due.is("the last LABEL of PATH 0", '0' + n, Stairs.of(n, 0).written(2 * n - 1));
            due.is("the last LABEL of the last PATH", '0' + n, Stairs.of(n, Stairs.lastPath(n)).written(3 * n - 2));
        }
    }

    private static void writtenEverywhere() {
        for (String word : Stairs.words(4)) {
            StairPaths x = Stairs.of(word, "4213");
            StringBuilder want = new StringBuilder();
            int ups = 0;
            for (char step : word.toCharArray()) {
                want.append(step).append(step == 'n' ? "" + "4213".charAt(ups++) : "");
            }
            for (int i = 0; i < 12; i++) {
                due.is("written(" + i + ") of " + want, want.charAt(i), x.written(i));
            }
        }
    }

    private static void writtenBehind() {
        for (int n = 2; n <= 5; n++) {
            for (int path : new int[] {0, Stairs.lastPath(n)}) {
                StairPaths x = Stairs.of(n, path);
                due.is("written(3 n)", -5, x.written(3 * n));
                due.is("written(3 n and 1)", -5, x.written(3 * n + 1));
                due.is("written(MAX)", -5, x.written(Stairs.MAX));
            }
        }
    }

    private static void writtenBelow() {
        StairPaths x = new StairPaths();
        due.is("written(-1)", StairPaths.NONE, x.written(-1));
        due.is("written(-5)", StairPaths.NONE, x.written(-5));
        due.is("written(MIN)", StairPaths.NONE, x.written(Stairs.MIN));
    }

    private static void fewestAndMostWays() {
        int[] most = {2, 6, 24, 120};
        for (int n = 2; n <= 5; n++) {
            StairPaths x = Stairs.of(n, 0);
            due.is("WAYS of PATH 0", 1, x.told(6));
            x.choose(Stairs.lastPath(n));
            due.is("WAYS of the last PATH", most[n - 2], x.told(6));
            x.exchange(0, 1);
            due.is("WAYS by other LABELS", most[n - 2], x.told(6));
        }
        StairPaths x = Stairs.of("nnnnneeeee", "54321");
        due.is("WAYS while LABELS aren't told well", 1, x.told(6));
    }
}
