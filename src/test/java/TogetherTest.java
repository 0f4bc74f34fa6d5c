/**
 * The document's first lines, where promises meet: what must hold between the answers of several calls, whatever
 * each of them is. It needs no second program, so it finds what that would have misread likewise.
 */
public final class TogetherTest {
    private static final Due due = new Due("TogetherTest");
    private static final int AREA = 0, BOUNCE = 1, TWOS = 2, PEAKS = 3, TOUCHES = 4, STATISTICS = 5;
    private static final int MAP = 0, TURN = 1, BACK = 2;

    public static void main(String[] args) {
        due.sentence("the map that carries two statistics to two others", TogetherTest::carriedStatistics);
        due.sentence("the map that carries two statistics to two others, the way back", TogetherTest::wayBack);
        due.sentence("how long till it comes round", TogetherTest::comesRound);
        due.sentence("TURNED: its STEPS from the last one on, n for e, and e for n", TogetherTest::turned);
        due.sentence("steps up and along that stay above the slope, their rows", TogetherTest::rowsOfSteps);
        due.sentence("labels on steps up that rise, cars that are parked by them", TogetherTest::parkedCars);
        due.sentence("labels by which it goes as seen", TogetherTest::labelsAsSeen);
        due.sentence("paths counted by two statistics, sums in two letters", TogetherTest::countsAndSums);
        due.sentence("odds, means", TogetherTest::oddsAndMeans);
        due.sentence("paths written as text, set-ups read from texts", TogetherTest::writtenAndRead);
        due.sentence("events, books, rows judged, an image", TogetherTest::eventsBookRowsImage);
        due.sentence("An object is used for at most 512 calls after it has been made", TogetherTest::lastCall);
        due.end();
    }

    private static void carriedStatistics() {
        for (int n = 2; n <= 5; n++) {
            for (int path = 0; path <= Stairs.lastPath(n); path++) {
                StairPaths x = Stairs.of(n, path);
                int map = x.mapped(path, MAP);
                due.is("AREA of the MAP of " + path, x.of(path, TWOS), x.of(map, AREA));
                due.is("BOUNCE of the MAP of " + path, x.of(path, AREA), x.of(map, BOUNCE));
            }
        }
    }

    private static void wayBack() {
        for (int n = 2; n <= 5; n++) {
            for (int path = 0; path <= Stairs.lastPath(n); path++) {
                StairPaths x = Stairs.of(n, path);
                due.is("becomes its MAP", x.mapped(path, MAP), x.becomes(MAP));
                due.is("becomes BACK of it", path, x.becomes(BACK));
                due.is("MAP of BACK", path, x.mapped(x.mapped(path, BACK), MAP));
            }
        }
    }

    private static void comesRound() {
        for (int n = 2; n <= 5; n++) {
            for (int path = 0; path <= Stairs.lastPath(n); path++) {
                StairPaths x = Stairs.of(n, path);
                int round = x.told(5);
                int met = 0;
                for (int k = 1; k <= round; k++) {
                    met += x.becomes(MAP) == path ? 1 : 0;
                }
                due.is("PATH " + path + " is met at last", path, x.told(2));
                due.is("PATH " + path + " is met once", 1, met);
                due.is("a PATH on the way has that ROUND", round, x.told(5));
            }
        }
    }

    private static void turned() {
        for (int n = 2; n <= 5; n++) {
            for (int path = 0; path <= Stairs.lastPath(n); path++) {
                StairPaths x = Stairs.of(n, path);
                int turned = x.mapped(path, TURN);
                due.is("turned twice", path, x.mapped(turned, TURN));
                due.is("AREA of it", x.of(path, AREA), x.of(turned, AREA));
                due.is("PEAKS of it", x.of(path, PEAKS), x.of(turned, PEAKS));
                due.is("TOUCHES of it", x.of(path, TOUCHES), x.of(turned, TOUCHES));
            }
        }
    }

    private static void rowsOfSteps() {
        for (int n = 2; n <= 5; n++) {
            for (int path = 0; path <= Stairs.lastPath(n); path++) {
                StairPaths x = Stairs.of(n, path);
                int height = 0;
                int ups = 0;
                int area = 0;
                for (int i = 0; i < 2 * n; i++) {
                    if (x.step(path, i) == 1) {
                        // behind ups STEPS n and as many STEPS e less the height, its ROW is the height
                        due.is("ROW " + ups, height, x.row(path, ups));
                        area += height;
                        ups++;
                        height++;
                    } else {
                        height--;
                    }
                    due.holds("stays above the slope", height >= 0);
                }
                due.is("comes down to it", 0, height);
                due.is("AREA", area, x.of(path, AREA));
            }
        }
    }

    private static void parkedCars() {
        for (int n = 2; n <= 5; n++) {
            for (int path = 0; path <= Stairs.lastPath(n); path++) {
                StairPaths x = Stairs.of(n, path);
                int well = 0;
                for (int k = 0; k < 12; k++) {
                    if (x.exchange(k % n, (k + 1) % n) == 0) {
                        due.is("LATE of LABELS not told well", -5, x.told(4));
                        continue;
                    }
                    well++;
                    // all places are taken in the end, so no order of the cars makes them later together
                    due.is("LATE is AREA", x.of(path, AREA), x.told(4));
                    int places = 0;
                    for (int i = 0; i < n; i++) {
                        places |= 1 << x.label(i, 2);
                        due.holds("no car is ahead of its place", x.label(i, 2) >= x.label(i, 1));
                    }
                    due.is("each place is taken once", (1 << n) - 1, places);
                }
                due.holds("PATH " + path + " had LABELS told well", well > 0 || x.told(6) == 1);
            }
        }
    }

    private static void labelsAsSeen() {
        for (int n = 2; n <= 5; n++) {
            for (int path = 0; path <= Stairs.lastPath(n); path++) {
                StairPaths x = Stairs.of(n, path);
                due.is("FITS by nothing SEEN", x.ways(path), x.fits());
                for (int i = 0; i < n; i++) {
                    int together = 0;
                    for (int label = 1; label <= 5; label++) {
                        x.see(-1, 0);
                        x.see(i, label);
                        together += x.fits();
                    }
                    due.is("FITS of STEP " + i + " by all LABELS, together", x.ways(path), together);
                }
            }
        }
    }

    private static void countsAndSums() {
        for (int n = 2; n <= 5; n++) {
            for (int a = 0; a < STATISTICS; a++) {
                for (int b = 0; b < STATISTICS; b++) {
                    StairPaths x = Stairs.of(n, 0);
                    long sum = 0;
                    for (int v = 0; v <= 10; v++) {
                        for (int w = 0; w <= 10; w++) {
                            sum += x.counted(a, b, v, w) * power(-3, v) * power(2, w);
                        }
                    }
                    due.is("SUM of " + a + ", " + b + " by COUNTED", sum, x.sum(a, b, -3, 2));
                    due.is("SUM of all PATHS", x.told(1), x.sum(a, b, 1, 1));
                    due.is("SUM the other way round", x.sum(a, b, 5, -2), x.sum(b, a, -2, 5));
                }
            }
            StairPaths x = Stairs.of(n, 0);
            due.is("SUM of AREA, BOUNCE is alike in both letters", x.sum(AREA, BOUNCE, 7, -4), x.sum(AREA, BOUNCE, -4, 7));
            due.is("SUM of TWOS, AREA is that of AREA, BOUNCE", x.sum(AREA, BOUNCE, 7, 3), x.sum(TWOS, AREA, 7, 3));
            due.is("WAYS of all", power(n + 1, n - 1), x.ways(-1));
        }
    }

    private static long power(long base, int exponent) {
        return exponent == 0 ? 1 : base * power(base, exponent - 1);
    }

    private static void oddsAndMeans() {
        for (int n = 2; n <= 5; n++) {
            for (int what = 0; what < STATISTICS; what++) {
                StairPaths x = Stairs.of(n, 0);
                long paths = x.told(1);
                long counted = 0;
                long total = 0;
                for (int v = 0; v <= 10; v++) {
                    long above = x.odds(what, v, 0);
                    long below = x.odds(what, v, 1);
                    due.is("in lowest terms", 1, divisor(above, below));
                    due.is("the line below divides all PATHS", 0, paths % below);
                    counted += above * (paths / below);
                    total += v * above * (paths / below);
                }
                due.is("ODDS of all numbers, together", paths, counted);
                due.is("MEAN by the ODDS", total * x.mean(what, 1), x.mean(what, 0) * paths);
                due.is("MEAN in lowest terms", 1, divisor(x.mean(what, 0), x.mean(what, 1)));
            }
        }
    }

    private static long divisor(long first, long second) {
        return second == 0 ? first : divisor(second, first % second);
    }

    private static void writtenAndRead() {
        for (int n = 2; n <= 5; n++) {
            for (int path = 0; path <= Stairs.lastPath(n); path++) {
                StairPaths x = Stairs.of(n, path);
                x.exchange(0, n - 1);
                StringBuilder steps = new StringBuilder();
                StringBuilder labels = new StringBuilder();
                for (int i = 0; x.written(i) != -5; i++) {
                    char sign = (char) x.written(i);
                    (sign == 'n' || sign == 'e' ? steps : labels).append(sign);
                }
                StairPaths other = new StairPaths();
                String text = "size " + n + ";path " + steps + ";label " + labels;
                due.is(text, 3, Stairs.read(other, text));
                due.is("CHOSEN by " + text, path, other.told(2));
                for (int i = 0; i <= 3 * n; i++) {
                    due.is("WRITTEN " + i + " by " + text, x.written(i), other.written(i));
                }
            }
        }
    }

    private static void eventsBookRowsImage() {
        for (int n = 2; n <= 5; n++) {
            for (int path = 0; path <= Stairs.lastPath(n); path++) {
                StairPaths x = Stairs.of(n, path);
                int[] rows = new int[n];
                for (int i = 0; i < n; i++) {
                    rows[i] = x.row(path, i);
                }
                Stairs.tape(x, 0, 0, rows);
                due.is("ROWS of CHOSEN are so", -5, x.judge(0, 0));
                x.book(path, x.of(path, AREA));
                due.is("the BOOK is so", -5, x.looked());
                x.image();
                for (int k = 0; k < 8; k++) {
                    x.event(k % 4, k % 4 < 2 ? 0 : k);
                }
                int after = x.after(0);
                due.is("AREA behind all of it", x.of(after, AREA), x.after(1));
                due.is("BOUNCE behind all of it", x.of(after, BOUNCE), x.after(2));
                for (int k = 0; k < 8; k++) {
                    happen(x, k % 4, k);
                }
                due.is("what happens by calls is AFTER", after, x.told(2));
                due.is("undo", path, x.undo());
                due.is("EVENTS as at THE IMAGE", 0, x.count(1));
                due.is("AFTER nothing", path, x.after(0));
            }
        }
    }

    private static void happen(StairPaths x, int what, int place) {
        if (what < 2) {
            x.becomes(what);
        } else if (what == 2) {
            x.raise(place);
        } else {
            x.lower(place);
        }
    }

    private static void lastCall() {
        StairPaths x = new StairPaths();
        for (int k = 1; k < 512; k++) {
            x.becomes(MAP);
        }
        // MAP takes PATH 0 to the last one and that one to it, and 511 is odd
        due.is("the 512th call", 4, x.told(2));
    }
}
