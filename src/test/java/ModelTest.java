import java.lang.reflect.InvocationTargetException;
import java.lang.reflect.Method;
import java.util.Arrays;
import java.util.Comparator;
import java.util.Random;

/** All that is told of each PATH, and long runs of calls with arguments of all sorts: the class answers as Model does. */
public final class ModelTest {
    private static final Due due = new Due("ModelTest");
    private static final int RUNS = 300;
    // an object is used for 512 calls; allTold takes 45 of them, a text with what is told behind it 214 at most
    private static final int CALLS = 512, ALL_TOLD = 45, TEXT = 214;
    private static final int[] FAR = {Integer.MIN_VALUE, Integer.MAX_VALUE, -3, 14, 41, 42, 59, 60, 61, 100, 127, 128};
    private static final long[] LONGS = {Long.MIN_VALUE, Long.MAX_VALUE, 128, 32768, 1L << 31, -1, 256, 65536, 1L << 32};
    private static final String[] CLAUSES = {"map", "turn", "size ", "path ", "up ", "down ", "label "};

    public static void main(String[] args) throws Exception {
        Method[] calls = StairPaths.class.getDeclaredMethods();
        calls = Arrays.stream(calls).filter(call -> java.lang.reflect.Modifier.isPublic(call.getModifiers()))
            .sorted(Comparator.comparing(Method::getName)).toArray(Method[]::new);
        for (int n = 2; n <= 5; n++) {
            pathsOf(n);
            figuresOf(n);
        }
        for (int run = 0; run < RUNS; run++) {
            Random random = new Random(run);
            StairPaths x = new StairPaths();
            Model model = new Model();
            int done = 0;
            while (done < CALLS - ALL_TOLD) {
                if (random.nextInt(100) == 0 && done <= CALLS - ALL_TOLD - TEXT) {
                    done += text(x, model, random, run);
                } else {
                    Method call = calls[random.nextInt(calls.length)];
                    compare(x, model, call, arguments(call, random), run);
                    done++;
                }
            }
            allTold(x, model, run);
        }
        due.end();
    }

    private static void pathsOf(int n) {
        Model model = new Model();
        model.size(n);
        for (int path = 0; path < model.told(1); path++) {
            StairPaths x = Stairs.of(n, 0);
            model.choose(0);
            String told = "PATH " + path + " of " + n + ": ";
            due.is(told + "choose", model.choose(path), x.choose(path));
            due.is(told + "WAYS", model.ways(path), x.ways(path));
            for (int what = 0; what < 5; what++) {
                due.is(told + "statistic " + what, model.of(path, what), x.of(path, what));
                due.is(told + "ROW " + what, model.row(path, what), x.row(path, what));
                due.is(told + "mapped by " + what, model.mapped(path, what), x.mapped(path, what));
            }
            for (int i = 0; i < 10; i++) {
                due.is(told + "STEP " + i, model.step(path, i), x.step(path, i));
                due.is(told + "raise " + i, model.raise(i), x.raise(i));
                due.is(told + "raised " + i, model.choose(path), x.choose(path));
                due.is(told + "lower " + i, model.lower(i), x.lower(i));
                due.is(told + "lowered " + i, model.choose(path), x.choose(path));
            }
            // these exchanges, over and over, take LABELS through many of their orders
            for (int k = 0; k < 30; k++) {
                due.is(told + "exchange", model.exchange(k % n, (k + k / n + 1) % n), x.exchange(k % n, (k + k / n + 1) % n));
                due.is(told + "LATE", model.told(4), x.told(4));
                for (int i = 0; i < n; i++) {
                    due.is(told + "asked", model.label(i, 1), x.label(i, 1));
                    due.is(told + "taken", model.label(i, 2), x.label(i, 2));
                }
            }
        }
    }

    private static void figuresOf(int n) {
        Model model = new Model();
        model.size(n);
        for (int a = 0; a < 5; a++) {
            StairPaths x = Stairs.of(n, 0);
            for (int v = -1; v < 12; v++) {
                due.is("odds above", model.odds(a, v, 0), x.odds(a, v, 0));
                due.is("odds below", model.odds(a, v, 1), x.odds(a, v, 1));
            }
            due.is("mean above", model.mean(a, 0), x.mean(a, 0));
            due.is("mean below", model.mean(a, 1), x.mean(a, 1));
            for (int b = 0; b < 5; b++) {
                x = Stairs.of(n, 0);
                for (int q = -8; q <= 8; q += 4) {
                    for (int t = -8; t <= 8; t += 2) {
                        due.is("sum " + a + " " + b + " " + q + " " + t, model.sum(a, b, q, t), x.sum(a, b, q, t));
                    }
                }
                for (int v = 0; v < 11; v++) {
                    due.is("counted", model.counted(a, b, v, v / 2), x.counted(a, b, v, v / 2));
                }
            }
        }
    }

    private static void compare(StairPaths x, Model model, Method call, Object[] given, int run) throws Exception {
        long want = ((Number) Model.class.getMethod(call.getName(), call.getParameterTypes()).invoke(model, given)).longValue();
        String told = "run " + run + ": " + call.getName() + Arrays.toString(given);
        try {
            due.is(told, want, ((Number) call.invoke(x, given)).longValue());
        } catch (InvocationTargetException thrown) {
            due.holds(told + " threw " + thrown.getCause(), false);
        }
    }

    private static Object[] arguments(Method call, Random random) {
        Object[] given = new Object[call.getParameterCount()];
        for (int k = 0; k < given.length; k++) {
            if (call.getParameterTypes()[k] == long.class) {
                given[k] = random.nextBoolean() ? (Object) (long) random.nextInt(4) : (Object) LONGS[random.nextInt(LONGS.length)];
            } else {
                given[k] = argument(call.getName(), k, random);
            }
        }
        return given;
    }

    private static int argument(String name, int k, Random random) {
        int kind = random.nextInt(20);
        if (kind == 0) {
            return FAR[random.nextInt(FAR.length)];
        }
        if (kind < 4) {
            return random.nextInt(13) - 2;
        }
        if (kind < 6) {
            return random.nextInt(44);
        }
        if (name.equals("size")) {
            return 2 + random.nextInt(4);
        }
        if (name.equals("tape") && k == 1) {
            return random.nextInt(3) == 0 ? random.nextInt(6) - 1 : 0;
        }
        if (k == 0 && (name.equals("see") || name.equals("event") || name.equals("book"))) {
            return random.nextInt(5);
        }
        return random.nextInt(kind < 12 ? 3 : 6);
    }

    /** Feeds a set-up, at times a faulty one, and reads it: how many calls that took. */
    private static int text(StairPaths x, Model model, Random random, int run) throws Exception {
        StringBuilder text = new StringBuilder();
        int clauses = 1 + random.nextInt(random.nextInt(4) == 0 ? 14 : 6);
        for (int k = 0; k < clauses; k++) {
            text.append(k == 0 ? "" : ";").append(clause(model, random));
        }
        if (random.nextInt(3) == 0) {
            int place = random.nextInt(text.length());
            int kind = random.nextInt(3);
            if (kind == 0) {
                text.setLength(place);
            } else if (kind == 1) {
                text.deleteCharAt(place);
            } else {
                text.insert(place, "ne;0 9m\0".charAt(random.nextInt(8)));
            }
        }
        Method feed = StairPaths.class.getMethod("feed", int.class);
        for (int i = 0; i < text.length(); i++) {
            compare(x, model, feed, new Object[] {(int) text.charAt(i)}, run);
        }
        compare(x, model, StairPaths.class.getMethod("read"), new Object[0], run);
        allTold(x, model, run);
        return text.length() + 1 + ALL_TOLD;
    }

    private static String clause(Model model, Random random) {
        String word = CLAUSES[random.nextInt(CLAUSES.length)];
        StringBuilder clause = new StringBuilder(word);
        int n = model.told(0);
        if (word.equals("path ")) {
            int path = random.nextInt(model.told(1));
            for (int i = 0; i < 2 * n; i++) {
                clause.append(model.step(path, i) == 1 ? 'n' : 'e');
            }
        } else if (word.equals("label ")) {
            String order = n == 2 ? "21" : n == 3 ? "312" : n == 4 ? "3142" : "42513";
            clause.append(random.nextInt(5) == 0 ? order.replace('2', '1') : order);
        } else if (word.endsWith(" ")) {
            clause.append(random.nextInt(word.equals("size ") ? 7 : 10));
        }
        return clause.toString();
    }

    private static void allTold(StairPaths x, Model model, int run) throws Exception {
        for (int what = 0; what < 7; what++) {
            due.is("run " + run + ": at last told(" + what + ")", model.told(what), x.told(what));
        }
        for (int i = 0; i < 5; i++) {
            due.is("run " + run + ": at last label(" + i + ", 0)", model.label(i, 0), x.label(i, 0));
            due.is("run " + run + ": at last label(" + i + ", 2)", model.label(i, 2), x.label(i, 2));
            due.is("run " + run + ": at last after, count", model.after(i) * 9 + model.count(i), x.after(i) * 9 + x.count(i));
        }
        due.is("run " + run + ": at last fits", model.fits(), x.fits());
        due.is("run " + run + ": at last looked", model.looked(), x.looked());
        for (int i = 0; i < 16; i++) {
            due.is("run " + run + ": at last written(" + i + ")", model.written(i), x.written(i));
        }
    }
}
