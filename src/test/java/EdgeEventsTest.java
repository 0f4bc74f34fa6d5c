/** Boundary cases of promises 24 to 27 and 29 to 31: a test for each sentence of the document that names one. */
public final class EdgeEventsTest {
    private static final Due due = new Due("EdgeEventsTest");
    private static final int MAP = 0, TURN = 1, RAISE = 2, LOWER = 3;

    public static void main(String[] args) {
        events();
        after();
        book();
        looked();
        image();
        undo();
        count();
        due.end();
    }

    private static void events() {
        String words = "NONE: what (0 .. 3); BAD: n isn't 0 (0, 1), not 0 .. 8 (2, 3); FULL: 8.";
        due.sentence(words, EdgeEventsTest::eventOfEachKind);
        due.sentence(words, EdgeEventsTest::eventKindBelow);
        due.sentence(words, EdgeEventsTest::eventKindAbove);
        due.sentence(words, EdgeEventsTest::eventPlaceOfMapAndTurn);
        due.sentence(words, EdgeEventsTest::eventPlaceBelow);
        due.sentence(words, EdgeEventsTest::eventPlaceAbove);
        due.sentence(words, EdgeEventsTest::eventInTheirOrder);
        due.sentence("3 LOWERED at n, if it can be; 8 rows at most)", EdgeEventsTest::eventFull);
        due.sentence("(what -1: none then, 0, whatever the rest is)", EdgeEventsTest::eventNoneThen);
    }

    private static void after() {
        due.sentence("AFTER, behind all of it: its number; AREA; BOUNCE", EdgeEventsTest::afterNone);
        due.sentence("AFTER, behind all of it: its number; AREA; BOUNCE", EdgeEventsTest::afterAllEight);
        due.sentence("AFTER, behind all of it: its number; AREA; BOUNCE", EdgeEventsTest::afterOneBehindTheOther);
        due.sentence("2 it is RAISED at n, if it can be", EdgeEventsTest::afterRaisedIfItCanBe);
        due.sentence("3 LOWERED at n, if it can be", EdgeEventsTest::afterLoweredIfItCanBe);
        due.sentence("AFTER: what 0 the number, 1 AREA, 2 BOUNCE. NONE.", EdgeEventsTest::afterNothingThatIsTold);
        due.sentence("SEEN, EVENTS, the BOOK and THE TEXT stay behind size.", EdgeEventsTest::afterBehindSize);
    }

    private static void book() {
        due.sentence("NONE: path; BAD: area (0 .. 10); FULL: 8.", EdgeEventsTest::bookFirstAndLast);
        due.sentence("NONE: path; BAD: area (0 .. 10); FULL: 8.", EdgeEventsTest::bookPathBelow);
        due.sentence("NONE: path; BAD: area (0 .. 10); FULL: 8.", EdgeEventsTest::bookPathBehind);
        due.sentence("NONE: path; BAD: area (0 .. 10); FULL: 8.", EdgeEventsTest::bookAreaBelow);
        due.sentence("NONE: path; BAD: area (0 .. 10); FULL: 8.", EdgeEventsTest::bookAreaAbove);
        due.sentence("NONE: path; BAD: area (0 .. 10); FULL: 8.", EdgeEventsTest::bookInTheirOrder);
        due.sentence("A BOOK told by hand: PATHS (numbers), AREAS (8 rows at most)", EdgeEventsTest::bookFull);
        due.sentence("(path -1: it is empty then, 0, whatever the rest is)", EdgeEventsTest::bookEmptyThen);
    }

    private static void looked() {
        due.sentence("or has another AREA now (-5: none).", EdgeEventsTest::lookedAtNone);
        due.sentence("the number (from 0) of the first of these rows", EdgeEventsTest::lookedAtFirstAndLast);
        due.sentence("whose PATH isn't there", EdgeEventsTest::lookedAtPathThatIsNotThere);
        due.sentence("or has another AREA now", EdgeEventsTest::lookedAtAnotherArea);
    }

    private static void image() {
        due.sentence("THE IMAGE is taken: the number of CHOSEN.", EdgeEventsTest::imageOfFirstAndLast);
        due.sentence("THE IMAGE is taken: the number of CHOSEN.", EdgeEventsTest::imageTakenAnew);
        due.sentence("THE IMAGE: n, CHOSEN, LABELS, SEEN, EVENTS, the BOOK.", EdgeEventsTest::imageStaysAsItWas);
        due.sentence("THE IMAGE leaves THE TEXT and the TAPES.", EdgeEventsTest::imageLeavesTheText);
        due.sentence("THE IMAGE leaves THE TEXT and the TAPES.", EdgeEventsTest::imageLeavesTheTapes);
    }

    private static void undo() {
        due.sentence("All is as THE IMAGE: the number of CHOSEN. STATE: there is none.", EdgeEventsTest::undoWithoutImage);
        due.sentence("All is as THE IMAGE: the number of CHOSEN. STATE: there is none.", EdgeEventsTest::undoWithoutImageLater);
        due.sentence("All is as THE IMAGE: the number of CHOSEN.", EdgeEventsTest::undoAtOnce);
        due.sentence("All is as THE IMAGE: the number of CHOSEN.", EdgeEventsTest::undoTwice);
        due.sentence("All is as THE IMAGE: the number of CHOSEN.", EdgeEventsTest::undoToEmptyLists);
        due.sentence("All is as THE IMAGE: the number of CHOSEN.", EdgeEventsTest::undoToFullLists);
        due.sentence("All is as THE IMAGE: the number of CHOSEN.", EdgeEventsTest::undoOverSizes);
        due.sentence("All is as THE IMAGE: the number of CHOSEN.", EdgeEventsTest::undoOfLabelsNotWell);
    }

    private static void count() {
        due.sentence("How many: 0 SEEN, 1 EVENTS, 2 of the BOOK, 3 bytes of THE TEXT. BAD.", EdgeEventsTest::countOfNone);
        due.sentence("How many: 0 SEEN, 1 EVENTS, 2 of the BOOK, 3 bytes of THE TEXT. BAD.", EdgeEventsTest::countOfFull);
        due.sentence("How many: 0 SEEN, 1 EVENTS, 2 of the BOOK, 3 bytes of THE TEXT. BAD.", EdgeEventsTest::countBelow);
        due.sentence("How many: 0 SEEN, 1 EVENTS, 2 of the BOOK, 3 bytes of THE TEXT. BAD.", EdgeEventsTest::countAbove);
    }

    // ---- event

    private static void eventOfEachKind() {
        StairPaths x = Stairs.of(2, 0);
        int[][] rows = {{MAP, 0}, {TURN, 0}, {RAISE, 0}, {RAISE, 8}, {LOWER, 0}, {LOWER, 8}};
        for (int k = 0; k < rows.length; k++) {
            due.is("event(" + rows[k][0] + ", " + rows[k][1] + ")", k + 1, x.event(rows[k][0], rows[k][1]));
        }
        due.is("how many", 6, x.count(1));
    }

    private static void eventKindBelow() {
        StairPaths x = new StairPaths();
        for (int what : new int[] {-2, -3, Stairs.MIN}) {
            due.is("event(" + what + ", 0)", StairPaths.NONE, x.event(what, 0));
        }
        due.is("how many", 0, x.count(1));
    }

    private static void eventKindAbove() {
        StairPaths x = new StairPaths();
        for (int what : new int[] {4, 5, 256, Stairs.MAX}) {
            due.is("event(" + what + ", 0)", StairPaths.NONE, x.event(what, 0));
        }
        due.is("how many", 0, x.count(1));
    }

    private static void eventPlaceOfMapAndTurn() {
        StairPaths x = new StairPaths();
        for (int n : new int[] {-1, 1, 8, 256, Stairs.MIN, Stairs.MAX}) {
            due.is("event(0, " + n + ")", StairPaths.BAD, x.event(MAP, n));
            due.is("event(1, " + n + ")", StairPaths.BAD, x.event(TURN, n));
        }
        due.is("how many", 0, x.count(1));
    }

    private static void eventPlaceBelow() {
        StairPaths x = new StairPaths();
        for (int n : new int[] {-1, -2, Stairs.MIN}) {
            due.is("event(2, " + n + ")", StairPaths.BAD, x.event(RAISE, n));
            due.is("event(3, " + n + ")", StairPaths.BAD, x.event(LOWER, n));
        }
        due.is("how many", 0, x.count(1));
    }

    private static void eventPlaceAbove() {
        StairPaths x = Stairs.of(5, 0);
        for (int n : new int[] {9, 10, 256, Stairs.MAX}) {
            due.is("event(2, " + n + ")", StairPaths.BAD, x.event(RAISE, n));
            due.is("event(3, " + n + ")", StairPaths.BAD, x.event(LOWER, n));
        }
        due.is("how many", 0, x.count(1));
    }

    private static void eventInTheirOrder() {
        StairPaths x = new StairPaths();
        due.is("event(4, 9)", StairPaths.NONE, x.event(4, 9));
        due.is("event(-2, -1)", StairPaths.NONE, x.event(-2, -1));
        for (int k = 0; k < 8; k++) {
            x.event(MAP, 0);
        }
        due.is("event(4, 9) when full", StairPaths.NONE, x.event(4, 9));
        due.is("event(0, 1) when full", StairPaths.BAD, x.event(MAP, 1));
        due.is("event(3, 9) when full", StairPaths.BAD, x.event(LOWER, 9));
        due.is("event(3, 8) when full", StairPaths.FULL, x.event(LOWER, 8));
    }

    private static void eventFull() {
        StairPaths x = new StairPaths();
        for (int k = 0; k < 8; k++) {
            due.is("event, row " + k, k + 1, x.event(MAP, 0));
        }
        due.is("event, a ninth row", StairPaths.FULL, x.event(MAP, 0));
        due.is("how many", 8, x.count(1));
        due.is("AFTER eight, the ninth has not come", 0, x.after(0));
    }

    private static void eventNoneThen() {
        for (int n : new int[] {0, -1, 1, 9, Stairs.MIN, Stairs.MAX}) {
            StairPaths x = new StairPaths();
            due.is("event(-1, " + n + ") of none", 0, x.event(-1, n));
            x.event(MAP, 0);
            due.is("event(-1, " + n + ") of one", 0, x.event(-1, n));
            due.is("AFTER none", 0, x.after(0));
            for (int k = 0; k < 8; k++) {
                due.is("event", k + 1, x.event(MAP, 0));
            }
            due.is("event(-1, " + n + ") of eight", 0, x.event(-1, n));
            due.is("how many", 0, x.count(1));
            due.is("event then", 1, x.event(LOWER, 2));
            due.is("AFTER one", 1, x.after(0));
        }
    }

    // ---- after

    private static void afterNone() {
        for (int n = 2; n <= 5; n++) {
            for (int path = 0; path <= Stairs.lastPath(n); path++) {
                StairPaths x = Stairs.of(n, path);
                due.is("the number", path, x.after(0));
                due.is("AREA", x.of(path, 0), x.after(1));
                due.is("BOUNCE", x.of(path, 1), x.after(2));
            }
        }
    }

    private static void afterAllEight() {
        StairPaths x = Stairs.of("nnnneneeee");
        int[] maps = {40, 4, 22, 5, 39, 3, 34, 9};
        for (int map : maps) {
            x.event(MAP, 0);
            due.is("the number, one MAP more", map, x.after(0));
        }
        due.is("AREA", 6, x.after(1));
        due.is("BOUNCE", 2, x.after(2));
        due.is("CHOSEN", 1, x.told(2));
    }

    private static void afterOneBehindTheOther() {
        StairPaths x = Stairs.of("nneene");
        x.event(MAP, 0);
        x.event(TURN, 0);
        due.is("MAP, then TURNED", 1, x.after(0));
        x.event(-1, 0);
        x.event(TURN, 0);
        x.event(MAP, 0);
        due.is("TURNED, then MAP", 2, x.after(0));
        x.choose(4);
        due.is("from another PATH", 0, x.after(0));
        due.is("AREA", 3, x.after(1));
        due.is("BOUNCE", 0, x.after(2));
    }

    private static void afterRaisedIfItCanBe() {
        for (int n = 2; n <= 5; n++) {
            for (int path = 0; path <= Stairs.lastPath(n); path++) {
                for (int i = 0; i <= 8; i++) {
                    StairPaths x = Stairs.of(n, path);
                    StairPaths y = Stairs.of(n, path);
                    x.event(RAISE, i);
                    int raised = y.raise(i);
                    due.is("PATH " + path + " of " + n + " RAISED at " + i, raised < 0 ? path : raised, x.after(0));
                }
            }
        }
    }

    private static void afterLoweredIfItCanBe() {
        for (int n = 2; n <= 5; n++) {
            for (int path = 0; path <= Stairs.lastPath(n); path++) {
                for (int i = 0; i <= 8; i++) {
                    StairPaths x = Stairs.of(n, path);
                    StairPaths y = Stairs.of(n, path);
                    x.event(LOWER, i);
                    int lowered = y.lower(i);
                    due.is("PATH " + path + " of " + n + " LOWERED at " + i, lowered < 0 ? path : lowered, x.after(0));
                }
            }
        }
        StairPaths x = Stairs.of("nnee");
        x.event(LOWER, 0);
        x.event(MAP, 0);
        due.is("what can't be, then MAP", 1, x.after(0));
    }

    private static void afterNothingThatIsTold() {
        StairPaths x = new StairPaths();
        x.event(MAP, 0);
        due.is("after(2), the last", 3, x.after(2));
        for (int what : new int[] {-1, 3, -2, 256, Stairs.MIN, Stairs.MAX}) {
            due.is("after(" + what + ")", StairPaths.NONE, x.after(what));
        }
    }

    private static void afterBehindSize() {
        StairPaths x = Stairs.of(5, 0);
        x.event(LOWER, 4);
        due.is("AFTER by n 5", 1, x.after(0));
        x.size(2);
        due.is("AFTER by n 2, where there is no such place", 0, x.after(0));
        x.size(5);
        due.is("AFTER by n 5 again", 1, x.after(0));
    }

    // ---- book

    private static void bookFirstAndLast() {
        for (int n = 2; n <= 5; n++) {
            StairPaths x = Stairs.of(n, 0);
            due.is("book(0, 0)", 1, x.book(0, 0));
            due.is("book(0, 10), whatever n is", 2, x.book(0, 10));
            due.is("book of the last", 3, x.book(Stairs.lastPath(n), 0));
            due.is("book of the last", 4, x.book(Stairs.lastPath(n), 10));
        }
    }

    private static void bookPathBelow() {
        StairPaths x = Stairs.of(5, 0);
        for (int path : new int[] {-2, -3, Stairs.MIN}) {
            due.is("book(" + path + ", 0)", StairPaths.NONE, x.book(path, 0));
        }
        due.is("how many", 0, x.count(2));
    }

    private static void bookPathBehind() {
        for (int n = 2; n <= 5; n++) {
            StairPaths x = Stairs.of(5, 41);
            x.size(n);
            for (int path : new int[] {Stairs.lastPath(n) + 1, 42, 256, Stairs.MAX}) {
                due.is("book(" + path + ", 0)", StairPaths.NONE, x.book(path, 0));
            }
            due.is("how many", 0, x.count(2));
        }
    }

    private static void bookAreaBelow() {
        StairPaths x = Stairs.of(5, 0);
        for (int area : new int[] {-1, -2, Stairs.MIN}) {
            due.is("book(0, " + area + ")", StairPaths.BAD, x.book(0, area));
        }
        due.is("how many", 0, x.count(2));
    }

    private static void bookAreaAbove() {
        StairPaths x = Stairs.of(5, 0);
        for (int area : new int[] {11, 12, 256, Stairs.MAX}) {
            due.is("book(0, " + area + ")", StairPaths.BAD, x.book(0, area));
        }
        due.is("how many", 0, x.count(2));
    }

    private static void bookInTheirOrder() {
        StairPaths x = new StairPaths();
        due.is("book(5, 11)", StairPaths.NONE, x.book(5, 11));
        due.is("book(-2, -1)", StairPaths.NONE, x.book(-2, -1));
        for (int k = 0; k < 8; k++) {
            x.book(0, 3);
        }
        due.is("book(5, 11) when full", StairPaths.NONE, x.book(5, 11));
        due.is("book(5, 3) when full", StairPaths.NONE, x.book(5, 3));
        due.is("book(0, 11) when full", StairPaths.BAD, x.book(0, 11));
        due.is("book(0, 3) when full", StairPaths.FULL, x.book(0, 3));
    }

    private static void bookFull() {
        StairPaths x = new StairPaths();
        for (int k = 0; k < 8; k++) {
            due.is("book, row " + k, k + 1, x.book(0, 3));
        }
        due.is("book, a ninth row", StairPaths.FULL, x.book(0, 0));
        due.is("how many", 8, x.count(2));
        due.is("LOOKED at, the ninth has not come", -5, x.looked());
    }

    private static void bookEmptyThen() {
        for (int area : new int[] {0, -1, 11, Stairs.MIN, Stairs.MAX}) {
            StairPaths x = new StairPaths();
            due.is("book(-1, " + area + ") of none", 0, x.book(-1, area));
            x.book(0, 0);
            due.is("book(-1, " + area + ") of one", 0, x.book(-1, area));
            due.is("LOOKED at none", -5, x.looked());
            for (int k = 0; k < 8; k++) {
                due.is("book", k + 1, x.book(0, 0));
            }
            due.is("book(-1, " + area + ") of eight", 0, x.book(-1, area));
            due.is("how many", 0, x.count(2));
            due.is("book then", 1, x.book(0, 3));
            due.is("LOOKED at one", -5, x.looked());
        }
    }

    // ---- looked

    private static void lookedAtNone() {
        StairPaths x = Stairs.of(5, 0);
        due.is("LOOKED at an empty BOOK", -5, x.looked());
        int[][] rows = {{0, 10}, {41, 0}, {1, 9}, {40, 1}, {17, 4}, {20, 3}, {41, 0}, {0, 10}};
        for (int[] row : rows) {
            x.book(row[0], row[1]);
            due.is("LOOKED at rows that are all so", -5, x.looked());
        }
    }

    private static void lookedAtFirstAndLast() {
        for (int wrong = 0; wrong < 8; wrong++) {
            StairPaths x = Stairs.of(3, 0);
            for (int k = 0; k < 8; k++) {
                x.book(0, k == wrong || k == 7 ? 2 : 3);
            }
            due.is("LOOKED at, row " + wrong + " and the last", wrong, x.looked());
        }
    }

    private static void lookedAtPathThatIsNotThere() {
        for (int n = 2; n <= 4; n++) {
            StairPaths x = Stairs.of(5, 0);
            x.book(Stairs.lastPath(n) + 1, 0);
            x.size(n);
            due.is("the first PATH that isn't there by n " + n, 0, x.looked());
        }
        StairPaths x = Stairs.of(3, 0);
        x.book(4, 0);
        x.size(4);
        due.is("PATH 4 by n 4, of another AREA", 0, x.looked());
        x.size(2);
        x.book(-1, 0);
        x.book(0, 1);
        x.book(1, 0);
        due.is("the last PATH is there", -5, x.looked());
    }

    private static void lookedAtAnotherArea() {
        StairPaths x = Stairs.of(3, 0);
        x.book(0, 3);
        due.is("AREA by n 3", -5, x.looked());
        x.size(4);
        due.is("AREA of PATH 0 by n 4", 0, x.looked());
        x.book(-1, 0);
        x.book(0, 5);
        due.is("1 less", 0, x.looked());
        x.book(-1, 0);
        x.book(0, 7);
        due.is("1 more", 0, x.looked());
        x.book(-1, 0);
        x.book(0, 6);
        x.choose(13);
        due.is("whatever CHOSEN is", -5, x.looked());
    }

    // ---- image

    private static void imageOfFirstAndLast() {
        for (int n = 2; n <= 5; n++) {
            due.is("image of the first", 0, Stairs.of(n, 0).image());
            due.is("image of the last", Stairs.lastPath(n), Stairs.of(n, Stairs.lastPath(n)).image());
        }
    }

    private static void imageTakenAnew() {
        StairPaths x = Stairs.of("nneene", "132");
        x.see(0, 1);
        due.is("image", 2, x.image());
        x.choose(4);
        x.see(-1, 0);
        due.is("image anew", 4, x.image());
        x.choose(1);
        due.is("undo", 4, x.undo());
        due.is("LABELS", "123", Stairs.labels(x));
        due.is("SEEN", 0, x.count(0));
    }

    private static void lists(StairPaths x, int seen, int events, int rows) {
        x.see(-1, 0);
        x.event(-1, 0);
        x.book(-1, 0);
        for (int k = 0; k < seen; k++) {
            x.see(1, 2);
        }
        for (int k = 0; k < events; k++) {
            x.event(TURN, 0);
        }
        for (int k = 0; k < rows; k++) {
            x.book(0, 3);
        }
    }

    private static void imageStaysAsItWas() {
        StairPaths x = Stairs.of("nneene", "231");
        lists(x, 1, 1, 1);
        x.image();
        x.exchange(0, 1);
        lists(x, 0, 0, 0);
        x.see(1, 3);
        x.event(MAP, 0);
        x.book(0, 4);
        due.is("undo", 2, x.undo());
        due.is("LABELS", "231", Stairs.labels(x));
        due.is("FITS of 2 on STEP 1", 1, x.fits());
        due.is("AFTER being TURNED", 3, x.after(0));
        due.is("LOOKED at", -5, x.looked());
    }

    private static void imageLeavesTheText() {
        StairPaths x = new StairPaths();
        Stairs.feed(x, "ma");
        x.image();
        Stairs.feed(x, "p");
        x.undo();
        due.is("how many bytes behind undo", 3, x.count(3));
        due.is("read", 1, x.read());
        due.is("CHOSEN, by the MAP", 4, x.told(2));
        due.is("undo", 0, x.undo());
        due.is("how many bytes", 0, x.count(3));
    }

    private static void imageLeavesTheTapes() {
        StairPaths x = new StairPaths();
        Stairs.tape(x, 0, 0, 1, 2, 3);
        Stairs.tape(x, 1, 3, 7);
        x.image();
        x.item(0, 0, 9);
        x.tape(1, -1, 0);
        Stairs.tape(x, 5, 2, 5);
        x.undo();
        due.is("the TAPE with another item", "9 2 3", Stairs.items(x, 0));
        due.is("the TAPE that holds nothing since", Stairs.NOTHING, x.item(1, 0, 0));
        due.is("the TAPE that holds a row since", "5", Stairs.items(x, 5));
    }

    // ---- undo

    private static void undoWithoutImage() {
        StairPaths x = new StairPaths();
        due.is("undo of a new object", StairPaths.STATE, x.undo());
        due.is("undo again", StairPaths.STATE, x.undo());
        x.image();
        due.is("undo with an image", 0, x.undo());
    }

    private static void undoWithoutImageLater() {
        StairPaths x = Stairs.of("nennenee", "2143");
        lists(x, 1, 2, 3);
        due.is("undo", StairPaths.STATE, x.undo());
        due.is("n", 4, x.told(0));
        due.is("CHOSEN", 10, x.told(2));
        due.is("LABELS", "2143", Stairs.labels(x));
        due.is("SEEN", 1, x.count(0));
        due.is("EVENTS", 2, x.count(1));
        due.is("the BOOK", 3, x.count(2));
    }

    private static void undoAtOnce() {
        StairPaths x = Stairs.of("nennenee", "2143");
        lists(x, 1, 2, 3);
        x.image();
        due.is("undo", 10, x.undo());
        due.is("n", 4, x.told(0));
        due.is("LABELS", "2143", Stairs.labels(x));
        due.is("SEEN", 1, x.count(0));
        due.is("EVENTS", 2, x.count(1));
        due.is("the BOOK", 3, x.count(2));
    }

    private static void undoTwice() {
        StairPaths x = Stairs.of("nneene", "231");
        lists(x, 1, 1, 1);
        x.image();
        for (int time = 0; time < 2; time++) {
            x.size(5);
            x.exchange(0, 4);
            lists(x, 2, 2, 2);
            due.is("undo", 2, x.undo());
            due.is("n", 3, x.told(0));
            due.is("LABELS", "231", Stairs.labels(x));
            x.exchange(0, 1);
            x.see(1, 3);
            x.event(MAP, 0);
            x.book(0, 4);
            due.is("undo again", 2, x.undo());
            due.is("LABELS", "231", Stairs.labels(x));
            due.is("SEEN", 1, x.count(0));
            due.is("EVENTS", 1, x.count(1));
            due.is("the BOOK", 1, x.count(2));
            due.is("FITS", 1, x.fits());
            due.is("AFTER", 3, x.after(0));
            due.is("LOOKED at", -5, x.looked());
        }
    }

    private static void undoToEmptyLists() {
        StairPaths x = new StairPaths();
        x.image();
        lists(x, 4, 8, 8);
        due.is("undo", 0, x.undo());
        for (int what = 0; what < 3; what++) {
            due.is("how many of " + what, 0, x.count(what));
        }
        due.is("FITS", 1, x.fits());
        due.is("AFTER", 0, x.after(0));
        due.is("LOOKED at", -5, x.looked());
        due.is("see then", 1, x.see(0, 1));
        due.is("event then", 1, x.event(MAP, 0));
        due.is("book then", 1, x.book(0, 0));
    }

    private static void undoToFullLists() {
        StairPaths x = new StairPaths();
        lists(x, 4, 8, 8);
        x.image();
        lists(x, 0, 0, 0);
        x.undo();
        due.is("see when full", StairPaths.FULL, x.see(0, 1));
        due.is("event when full", StairPaths.FULL, x.event(MAP, 0));
        due.is("book when full", StairPaths.FULL, x.book(0, 0));
        due.is("SEEN", 4, x.count(0));
        due.is("EVENTS", 8, x.count(1));
        due.is("the BOOK", 8, x.count(2));
    }

    private static void undoOverSizes() {
        for (int n = 2; n <= 5; n++) {
            for (int other = 2; other <= 5; other++) {
                StairPaths x = Stairs.of(n, Stairs.lastPath(n));
                x.exchange(0, n - 1);
                String labels = Stairs.labels(x);
                x.image();
                x.size(other);
                due.is("undo", Stairs.lastPath(n), x.undo());
                due.is("n", n, x.told(0));
                due.is("how many PATHS", Stairs.lastPath(n) + 1, x.told(1));
                due.is("LABELS", labels, Stairs.labels(x));
            }
        }
    }

    private static void undoOfLabelsNotWell() {
        StairPaths x = Stairs.of("nnneee", "321");
        x.image();
        x.choose(0);
        x.undo();
        due.is("LABELS", "321", Stairs.labels(x));
        due.is("whether they are told well", 0, x.told(3));
        due.is("LATE", -5, x.told(4));
    }

    // ---- count

    private static void countOfNone() {
        StairPaths x = new StairPaths();
        for (int what = 0; what < 4; what++) {
            due.is("count(" + what + ")", 0, x.count(what));
        }
    }

    private static void countOfFull() {
        StairPaths x = new StairPaths();
        lists(x, 5, 9, 9);
        Stairs.feed(x, "m".repeat(101));
        int[] most = {4, 8, 8, 100};
        for (int what = 0; what < 4; what++) {
            due.is("count(" + what + ")", most[what], x.count(what));
        }
    }

    private static void countBelow() {
        StairPaths x = new StairPaths();
        for (int what : new int[] {-1, -2, Stairs.MIN}) {
            due.is("count(" + what + ")", StairPaths.BAD, x.count(what));
        }
    }

    private static void countAbove() {
        StairPaths x = new StairPaths();
        for (int what : new int[] {4, 5, 256, Stairs.MAX}) {
            due.is("count(" + what + ")", StairPaths.BAD, x.count(what));
        }
    }
}
