/** Boundary cases of TAPES and of promises 28 and 32 to 35: a test for each sentence of the document that names one. */
public final class EdgeTapesTest {
    private static final Due due = new Due("EdgeTapesTest");
    private static final int BYTES = 0, SHORTS = 1, INTS = 2, LONGS = 3, BOOLEANS = 4;
    private static final int[] BELOW = {-1, -2, Stairs.MIN};
    private static final int[] NO_TAPES = {-1, 6, -2, 7, 256, Stairs.MIN, Stairs.MAX};

    public static void main(String[] args) {
        judge();
        tape();
        item();
        peek();
        shift();
        shiftRefused();
        due.end();
    }

    private static void judge() {
        due.sentence("JUDGED from place i of a TAPE on. NONE: tape; CAST: it is no row of bytes.",
            EdgeTapesTest::judgeNoTape);
        due.sentence("JUDGED from place i of a TAPE on. NONE: tape; CAST: it is no row of bytes.",
            EdgeTapesTest::judgeOtherSorts);
        due.sentence("the first ROW that is otherwise; -5: none", EdgeTapesTest::judgeAllSo);
        due.sentence("the first ROW that is otherwise; -5: none", EdgeTapesTest::judgeFirstAndLastOtherwise);
        due.sentence("the first ROW that is otherwise; -5: none", EdgeTapesTest::judgeBytesThatWrap);
        due.sentence("100 and how many were looked at, if the row ends ahead of that", EdgeTapesTest::judgeRowThatEnds);
        due.sentence("100 and how many were looked at, if the row ends ahead of that",
            EdgeTapesTest::judgeOtherwiseAheadOfTheEnd);
        due.sentence("100 and how many were looked at, if the row ends ahead of that", EdgeTapesTest::judgeEmptyRow);
        due.sentence("100 and how many were looked at, if the row ends ahead of that", EdgeTapesTest::judgeBehindTheEnd);
        due.sentence("(or the place is below 0, or the TAPE holds nothing)", EdgeTapesTest::judgeBelow);
        due.sentence("(or the place is below 0, or the TAPE holds nothing)", EdgeTapesTest::judgeNothing);
        due.sentence("What a row has behind the last ROW does not matter.", EdgeTapesTest::judgeWhatIsBehind);
        due.sentence("ROWS of CHOSEN told by a row of bytes, from a place on, are JUDGED",
            EdgeTapesTest::judgeFirstAndLastPlace);
    }

    private static void tape() {
        due.sentence("TAPES 0 .. 5 hold nothing (at first)", EdgeTapesTest::tapesAtFirst);
        due.sentence("TAPES 0 .. 5 hold nothing (at first), or a row", EdgeTapesTest::tapesHoldARowEach);
        String words = "A TAPE becomes a row of n (0 .. 60) of a sort, all 0, or holds nothing";
        due.sentence(words, EdgeTapesTest::tapeOfNoneAndOfAll);
        due.sentence(words, EdgeTapesTest::tapeAllZeros);
        due.sentence("(sort -1: n does not matter)", EdgeTapesTest::tapeOfNothing);
        due.sentence("NONE: tape; BAD: sort, n above 60; SIZE.", EdgeTapesTest::tapeNone);
        due.sentence("NONE: tape; BAD: sort, n above 60; SIZE.", EdgeTapesTest::tapeSortBelowAndAbove);
        due.sentence("NONE: tape; BAD: sort, n above 60; SIZE.", EdgeTapesTest::tapeTooLong);
        due.sentence("SIZE (-14): a size below 0.", EdgeTapesTest::tapeBelowNothing);
        due.sentence("NONE: tape; BAD: sort, n above 60; SIZE.", EdgeTapesTest::tapeInTheirOrder);
    }

    private static void item() {
        due.sentence("its lowest bits, as many as an item has", EdgeTapesTest::itemGreatestAndLeast);
        due.sentence("its lowest bits, as many as an item has", EdgeTapesTest::itemWrapsAround);
        due.sentence("booleans: whether v is not 0", EdgeTapesTest::itemOfBooleans);
        due.sentence("4 booleans (items 0, 1)", EdgeTapesTest::itemOfBooleans);
        due.sentence("PLACE (-13): no such place", EdgeTapesTest::itemFirstAndLast);
        due.sentence("PLACE (-13): no such place", EdgeTapesTest::itemBelow);
        due.sentence("PLACE (-13): no such place", EdgeTapesTest::itemBehind);
        due.sentence("NOTHING (-11): nothing is there", EdgeTapesTest::itemOfNothing);
        due.sentence("as many as an item has; booleans: whether v is not 0): 1. NONE; NOTHING; PLACE.",
            EdgeTapesTest::itemNone);
    }

    private static void peek() {
        due.sentence("Item i of a TAPE. NO: no such TAPE, nothing there, no such place.", EdgeTapesTest::peekNoTape);
        due.sentence("Item i of a TAPE. NO: no such TAPE, nothing there, no such place.", EdgeTapesTest::peekNothing);
        due.sentence("Item i of a TAPE. NO: no such TAPE, nothing there, no such place.", EdgeTapesTest::peekBelow);
        due.sentence("Item i of a TAPE. NO: no such TAPE, nothing there, no such place.", EdgeTapesTest::peekBehind);
        due.sentence("Item i of a TAPE. NO: no such TAPE, nothing there, no such place.",
            EdgeTapesTest::peekFirstAndLast);
    }

    private static void shift() {
        due.sentence("n items of a TAPE from i on come to another one", EdgeTapesTest::shiftAll);
        due.sentence("n items of a TAPE from i on come to another one", EdgeTapesTest::shiftNone);
        due.sentence("n items of a TAPE from i on come to another one", EdgeTapesTest::shiftFirstAndLast);
        due.sentence("n items of a TAPE from i on come to another one", EdgeTapesTest::shiftOfEachSort);
        due.sentence("(or the same) from j on, as they all were before: n.", EdgeTapesTest::shiftBehindWithinOne);
        due.sentence("(or the same) from j on, as they all were before: n.", EdgeTapesTest::shiftAheadWithinOne);
        due.sentence("(or the same) from j on, as they all were before: n.", EdgeTapesTest::shiftOntoItself);
    }

    private static void shiftRefused() {
        due.sentence("NONE: tapes; NOTHING; CAST: of unlike sorts", EdgeTapesTest::shiftNoTapes);
        due.sentence("NONE: tapes; NOTHING; CAST: of unlike sorts", EdgeTapesTest::shiftNothing);
        due.sentence("NONE: tapes; NOTHING; CAST: of unlike sorts", EdgeTapesTest::shiftUnlikeSorts);
        due.sentence("CAST (-12): another sort", EdgeTapesTest::shiftUnlikeSorts);
        due.sentence("PLACE: n, i or j is below 0, or beyond either's end.", EdgeTapesTest::shiftBelow);
        due.sentence("PLACE: n, i or j is below 0, or beyond either's end.", EdgeTapesTest::shiftBeyondTheEnd);
        due.sentence("PLACE: n, i or j is below 0, or beyond either's end.", EdgeTapesTest::shiftFarBeyondTheEnd);
        due.sentence("NONE: tapes; NOTHING; CAST: of unlike sorts; PLACE", EdgeTapesTest::shiftInTheirOrder);
    }

    // ---- judge

    private static void judgeNoTape() {
        StairPaths x = new StairPaths();
        for (int tape : NO_TAPES) {
            due.is("judge(" + tape + ", 0)", StairPaths.NONE, x.judge(tape, 0));
            due.is("judge(" + tape + ", -1)", StairPaths.NONE, x.judge(tape, -1));
        }
    }

    private static void judgeOtherSorts() {
        for (int sort = SHORTS; sort <= BOOLEANS; sort++) {
            StairPaths x = Stairs.of("nene");
            Stairs.tape(x, 0, sort, 0, 0);
            Stairs.tape(x, 5, sort);
            due.is("judge of sort " + sort, Stairs.CAST, x.judge(0, 0));
            due.is("judge of an empty row of sort " + sort, Stairs.CAST, x.judge(5, 0));
            due.is("judge behind the end of sort " + sort, Stairs.CAST, x.judge(0, 2));
            due.is("judge from below 0 of sort " + sort, Stairs.CAST, x.judge(0, -1));
        }
    }

    private static void judgeAllSo() {
        for (int n = 2; n <= 5; n++) {
            StairPaths x = Stairs.of(n, 0);
            Stairs.tape(x, 0, BYTES, new int[n]);
            Stairs.tape(x, 1, BYTES, 0, 1, 2, 3, 4);
            due.is("judge of PATH 0", -5, x.judge(1, 0));
            x.choose(Stairs.lastPath(n));
            due.is("judge of the last PATH, by a row that ends with it", -5, x.judge(0, 0));
        }
    }

    private static void judgeFirstAndLastOtherwise() {
        for (int n = 2; n <= 5; n++) {
            for (int wrong = 0; wrong < n; wrong++) {
                StairPaths x = Stairs.of(n, 0);
                Stairs.tape(x, 0, BYTES, 0, 1, 2, 3, 4);
                x.item(0, wrong, wrong + 1);
                due.is("judge, ROW " + wrong + " is 1 more", wrong, x.judge(0, 0));
                x.item(0, wrong, wrong - 1);
                x.item(0, n - 1, 9);
                due.is("judge, ROW " + wrong + " and the last", wrong, x.judge(0, 0));
            }
        }
    }

    private static void judgeBytesThatWrap() {
        StairPaths x = Stairs.of("nnee");
        Stairs.tape(x, 0, BYTES, 256, 257);
        due.is("judge of 256 and 257, which are 0 and 1 as bytes", -5, x.judge(0, 0));
        Stairs.tape(x, 0, BYTES, 0, 255);
        due.is("judge of 255, which is -1 as a byte", 1, x.judge(0, 0));
        Stairs.tape(x, 0, BYTES, 128, 1);
        due.is("judge of 128, which is -128 as a byte", 0, x.judge(0, 0));
    }

    private static void judgeRowThatEnds() {
        for (int n = 2; n <= 5; n++) {
            StairPaths x = Stairs.of(n, 0);
            for (int length = 0; length < n; length++) {
                int[] rows = new int[length];
                for (int k = 0; k < length; k++) {
                    rows[k] = k;
                }
                Stairs.tape(x, 0, BYTES, rows);
                due.is("judge of " + length + " bytes by n " + n, 100 + length, x.judge(0, 0));
            }
        }
    }

    private static void judgeOtherwiseAheadOfTheEnd() {
        StairPaths x = Stairs.of("nnneee");
        Stairs.tape(x, 0, BYTES, 0, 2);
        due.is("judge, the last byte is otherwise", 1, x.judge(0, 0));
        Stairs.tape(x, 0, BYTES, 3);
        due.is("judge, the one byte is otherwise", 0, x.judge(0, 0));
    }

    private static void judgeEmptyRow() {
        StairPaths x = new StairPaths();
        Stairs.tape(x, 0, BYTES);
        due.is("judge(0, 0)", 100, x.judge(0, 0));
        due.is("judge(0, 1)", 100, x.judge(0, 1));
        due.is("judge(0, -1)", 100, x.judge(0, -1));
    }

    private static void judgeBehindTheEnd() {
        StairPaths x = new StairPaths();
        Stairs.tape(x, 0, BYTES, 0, 1, 2);
        for (int i : new int[] {3, 4, 60, 256, Stairs.MAX, Stairs.MAX - 1}) {
            due.is("judge(0, " + i + ")", 100, x.judge(0, i));
        }
    }

    private static void judgeBelow() {
        StairPaths x = new StairPaths();
        Stairs.tape(x, 0, BYTES, 0, 1, 2);
        for (int i : BELOW) {
            due.is("judge(0, " + i + ")", 100, x.judge(0, i));
        }
    }

    private static void judgeNothing() {
        StairPaths x = new StairPaths();
        for (int tape = 0; tape < 6; tape++) {
            for (int i : new int[] {0, 5, -1, Stairs.MIN, Stairs.MAX}) {
                due.is("judge(" + tape + ", " + i + ")", 100, x.judge(tape, i));
            }
        }
        Stairs.tape(x, 0, INTS, 0, 1, 2);
        x.tape(0, -1, 0);
        due.is("judge of a TAPE that holds nothing again", 100, x.judge(0, 0));
    }

    private static void judgeWhatIsBehind() {
        StairPaths x = Stairs.of("nnee");
        Stairs.tape(x, 0, BYTES, 0, 1, 9, -1, 2);
        due.is("judge with three bytes behind", -5, x.judge(0, 0));
        x.size(5);
        x.size(2);
        due.is("judge behind size", -5, x.judge(0, 0));
    }

    private static void judgeFirstAndLastPlace() {
        StairPaths x = Stairs.of(5, 41);
        x.tape(0, BYTES, 60);
        due.is("judge from place 0 on", -5, x.judge(0, 0));
        due.is("judge from place 55 on", -5, x.judge(0, 55));
        due.is("judge from place 56 on", 104, x.judge(0, 56));
        due.is("judge from place 59 on", 101, x.judge(0, 59));
        due.is("judge from place 60 on", 100, x.judge(0, 60));
        x.choose(40);
        due.is("judge of CHOSEN now", 4, x.judge(0, 55));
        due.is("judge, which ends ahead of what is otherwise", 104, x.judge(0, 56));
    }

    // ---- tape

    private static void tapesAtFirst() {
        StairPaths x = new StairPaths();
        for (int tape = 0; tape < 6; tape++) {
            due.is("item of TAPE " + tape, Stairs.NOTHING, x.item(tape, 0, 1));
            due.is("peek of TAPE " + tape, StairPaths.NO, x.peek(tape, 0));
            due.is("judge of TAPE " + tape, 100, x.judge(tape, 0));
            due.is("shift of TAPE " + tape, Stairs.NOTHING, x.shift(tape, 0, tape, 0, 0));
            due.is("tape(" + tape + ", 0, 1)", 1, x.tape(tape, 0, 1));
        }
    }

    private static void tapesHoldARowEach() {
        StairPaths x = new StairPaths();
        for (int tape = 0; tape < 6; tape++) {
            Stairs.tape(x, tape, tape % 5, tape == BOOLEANS ? 1 : tape + 2, 0);
        }
        for (int tape = 0; tape < 6; tape++) {
            due.is("TAPE " + tape, tape == BOOLEANS ? "1 0" : tape + 2 + " 0", Stairs.items(x, tape));
        }
        x.tape(3, -1, 0);
        due.is("TAPE 3", "", Stairs.items(x, 3));
        due.is("TAPE 2", "4 0", Stairs.items(x, 2));
        due.is("TAPE 5", "7 0", Stairs.items(x, 5));
    }

    private static void tapeOfNoneAndOfAll() {
        for (int sort = BYTES; sort <= BOOLEANS; sort++) {
            StairPaths x = new StairPaths();
            due.is("tape(0, " + sort + ", 0)", 1, x.tape(0, sort, 0));
            due.is("item of a row of 0", Stairs.PLACE, x.item(0, 0, 1));
            due.is("tape(5, " + sort + ", 60)", 1, x.tape(5, sort, 60));
            due.is("item 59", 1, x.item(5, 59, 1));
            due.is("peek 59", 1, x.peek(5, 59));
            due.is("item 60", Stairs.PLACE, x.item(5, 60, 1));
        }
    }

    private static void tapeAllZeros() {
        for (int sort = BYTES; sort <= BOOLEANS; sort++) {
            StairPaths x = new StairPaths();
            Stairs.tape(x, 0, sort, 1, 1, 1, 1);
            x.tape(0, sort, 4);
            due.is("a row anew", "0 0 0 0", Stairs.items(x, 0));
            Stairs.tape(x, 0, sort, 1, 1, 1, 1);
            x.tape(0, sort, 2);
            due.is("a shorter row", "0 0", Stairs.items(x, 0));
            x.tape(0, sort, 4);
            due.is("a longer row", "0 0 0 0", Stairs.items(x, 0));
            Stairs.tape(x, 0, sort, 1, 1, 1, 1);
            x.tape(0, -1, 0);
            x.tape(0, (sort + 1) % 5, 4);
            due.is("a row of another sort", "0 0 0 0", Stairs.items(x, 0));
            x.tape(0, sort, 60);
            for (int i = 0; i < 60; i++) {
                x.item(0, i, 1);
            }
            x.tape(0, sort, 60);
            for (int i = 0; i < 60; i++) {
                due.is("item " + i + " of the longest row", 0, x.peek(0, i));
            }
        }
    }

    private static void tapeOfNothing() {
        for (int n : new int[] {0, 1, -1, 60, 61, Stairs.MIN, Stairs.MAX}) {
            StairPaths x = new StairPaths();
            due.is("tape(0, -1, " + n + ") of nothing", 1, x.tape(0, -1, n));
            due.is("item", Stairs.NOTHING, x.item(0, 0, 1));
            Stairs.tape(x, 0, BYTES, 1);
            due.is("tape(0, -1, " + n + ") of a row", 1, x.tape(0, -1, n));
            due.is("item", Stairs.NOTHING, x.item(0, 0, 1));
            due.is("peek", StairPaths.NO, x.peek(0, 0));
        }
    }

    private static void tapeNone() {
        StairPaths x = new StairPaths();
        for (int tape : NO_TAPES) {
            due.is("tape(" + tape + ", 0, 1)", StairPaths.NONE, x.tape(tape, 0, 1));
            due.is("tape(" + tape + ", -1, 0)", StairPaths.NONE, x.tape(tape, -1, 0));
        }
    }

    private static void tapeSortBelowAndAbove() {
        StairPaths x = new StairPaths();
        Stairs.tape(x, 0, BYTES, 7);
        for (int sort : new int[] {-2, 5, -3, 6, 256, Stairs.MIN, Stairs.MAX}) {
            due.is("tape(0, " + sort + ", 1)", StairPaths.BAD, x.tape(0, sort, 1));
        }
        due.is("the row that was", "7", Stairs.items(x, 0));
    }

    private static void tapeTooLong() {
        StairPaths x = new StairPaths();
        Stairs.tape(x, 0, BYTES, 7);
        for (int sort = BYTES; sort <= BOOLEANS; sort++) {
            due.is("tape(0, " + sort + ", 61)", StairPaths.BAD, x.tape(0, sort, 61));
            due.is("tape(0, " + sort + ", 256)", StairPaths.BAD, x.tape(0, sort, 256));
            due.is("tape(0, " + sort + ", MAX)", StairPaths.BAD, x.tape(0, sort, Stairs.MAX));
        }
        due.is("the row that was", "7", Stairs.items(x, 0));
    }

    private static void tapeBelowNothing() {
        StairPaths x = new StairPaths();
        Stairs.tape(x, 0, BYTES, 7);
        for (int sort = BYTES; sort <= BOOLEANS; sort++) {
            for (int n : BELOW) {
                due.is("tape(0, " + sort + ", " + n + ")", Stairs.SIZE, x.tape(0, sort, n));
            }
        }
        due.is("the row that was", "7", Stairs.items(x, 0));
        due.is("the TAPE that held nothing", Stairs.SIZE, x.tape(1, BYTES, -1));
        due.is("it holds nothing", Stairs.NOTHING, x.item(1, 0, 0));
    }

    private static void tapeInTheirOrder() {
        StairPaths x = new StairPaths();
        due.is("tape(6, 5, 61)", StairPaths.NONE, x.tape(6, 5, 61));
        due.is("tape(-1, 0, -1)", StairPaths.NONE, x.tape(-1, 0, -1));
        due.is("tape(0, 5, 61)", StairPaths.BAD, x.tape(0, 5, 61));
        due.is("tape(0, 5, -1)", StairPaths.BAD, x.tape(0, 5, -1));
        due.is("tape(0, -2, -1)", StairPaths.BAD, x.tape(0, -2, -1));
        due.is("it holds nothing", Stairs.NOTHING, x.item(0, 0, 0));
    }

    // ---- item

    private static void itemIs(int sort, long v, long want) {
        StairPaths x = new StairPaths();
        x.tape(3, sort, 2);
        due.is("item of sort " + sort + " becomes " + v, 1, x.item(3, 1, v));
        due.is("item of sort " + sort + ", " + v, want, x.peek(3, 1));
        due.is("the item ahead of it", 0, x.peek(3, 0));
    }

    private static void itemGreatestAndLeast() {
        int[] bits = {8, 16, 32};
        for (int sort = BYTES; sort <= INTS; sort++) {
            long most = (1L << bits[sort] - 1) - 1;
            itemIs(sort, most, most);
            itemIs(sort, -most - 1, -most - 1);
            itemIs(sort, -1, -1);
        }
        itemIs(LONGS, Long.MAX_VALUE, Long.MAX_VALUE);
        itemIs(LONGS, Long.MIN_VALUE + 1, Long.MIN_VALUE + 1);
        itemIs(LONGS, Long.MIN_VALUE, Long.MIN_VALUE);
        itemIs(LONGS, -1, -1);
    }

    private static void itemWrapsAround() {
        int[] bits = {8, 16, 32};
        for (int sort = BYTES; sort <= INTS; sort++) {
            long most = (1L << bits[sort] - 1) - 1;
            itemIs(sort, most + 1, -most - 1);
            itemIs(sort, -most - 2, most);
            itemIs(sort, 2 * most + 1, -1);
            itemIs(sort, 2 * most + 2, 0);
            itemIs(sort, 1L << 62, 0);
            itemIs(sort, Long.MAX_VALUE, -1);
            itemIs(sort, Long.MIN_VALUE, 0);
        }
    }

    private static void itemOfBooleans() {
        for (long v : new long[] {1, 2, -1, 256, 1L << 32, Long.MIN_VALUE, Long.MAX_VALUE}) {
            itemIs(BOOLEANS, v, 1);
        }
        itemIs(BOOLEANS, 0, 0);
        StairPaths x = new StairPaths();
        Stairs.tape(x, 0, BOOLEANS, 1);
        x.item(0, 0, 0);
        due.is("an item that is 0 again", 0, x.peek(0, 0));
    }

    private static void itemFirstAndLast() {
        for (int sort = BYTES; sort <= BOOLEANS; sort++) {
            StairPaths x = new StairPaths();
            x.tape(0, sort, 3);
            due.is("the first item of sort " + sort, 1, x.item(0, 0, 1));
            due.is("the last item of sort " + sort, 1, x.item(0, 2, 1));
            due.is("the row", "1 0 1", Stairs.items(x, 0));
        }
    }

    private static void itemBelow() {
        for (int sort = BYTES; sort <= BOOLEANS; sort++) {
            StairPaths x = new StairPaths();
            Stairs.tape(x, 0, sort, 1, 0, 1);
            for (int i : BELOW) {
                due.is("item(0, " + i + ", 0) of sort " + sort, Stairs.PLACE, x.item(0, i, 0));
            }
            due.is("the row", "1 0 1", Stairs.items(x, 0));
        }
    }

    private static void itemBehind() {
        for (int sort = BYTES; sort <= BOOLEANS; sort++) {
            StairPaths x = new StairPaths();
            x.tape(0, sort, 60);
            Stairs.tape(x, 0, sort, 0, 1, 0);
            for (int i : new int[] {3, 4, 59, 60, 256, Stairs.MAX}) {
                due.is("item(0, " + i + ", 1) of sort " + sort, Stairs.PLACE, x.item(0, i, 1));
            }
            due.is("the row", "0 1 0", Stairs.items(x, 0));
            x.tape(0, sort, 5);
            due.is("a longer row", "0 0 0 0 0", Stairs.items(x, 0));
        }
    }

    private static void itemOfNothing() {
        StairPaths x = new StairPaths();
        for (int i : new int[] {0, -1, 60, Stairs.MIN, Stairs.MAX}) {
            due.is("item(2, " + i + ", 1)", Stairs.NOTHING, x.item(2, i, 1));
        }
        due.is("peek", StairPaths.NO, x.peek(2, 0));
    }

    private static void itemNone() {
        StairPaths x = new StairPaths();
        for (int tape : NO_TAPES) {
            due.is("item(" + tape + ", 0, 1)", StairPaths.NONE, x.item(tape, 0, 1));
            due.is("item(" + tape + ", -1, 1)", StairPaths.NONE, x.item(tape, -1, 1));
        }
    }

    // ---- peek

    private static void peekNoTape() {
        StairPaths x = new StairPaths();
        for (int tape : NO_TAPES) {
            due.is("peek(" + tape + ", 0)", StairPaths.NO, x.peek(tape, 0));
        }
    }

    private static void peekNothing() {
        StairPaths x = new StairPaths();
        for (int tape = 0; tape < 6; tape++) {
            due.is("peek(" + tape + ", 0)", StairPaths.NO, x.peek(tape, 0));
            due.is("peek(" + tape + ", -1)", StairPaths.NO, x.peek(tape, -1));
        }
    }

    private static void peekBelow() {
        for (int sort = BYTES; sort <= BOOLEANS; sort++) {
            StairPaths x = new StairPaths();
            Stairs.tape(x, 0, sort, 1, 1);
            for (int i : BELOW) {
                due.is("peek(0, " + i + ") of sort " + sort, StairPaths.NO, x.peek(0, i));
            }
        }
    }

    private static void peekBehind() {
        for (int sort = BYTES; sort <= BOOLEANS; sort++) {
            StairPaths x = new StairPaths();
            Stairs.tape(x, 0, sort, 1, 1);
            Stairs.tape(x, 1, sort);
            for (int i : new int[] {2, 3, 59, 60, 256, Stairs.MAX}) {
                due.is("peek(0, " + i + ") of sort " + sort, StairPaths.NO, x.peek(0, i));
            }
            due.is("peek of a row of 0", StairPaths.NO, x.peek(1, 0));
        }
    }

    private static void peekFirstAndLast() {
        StairPaths x = new StairPaths();
        Stairs.tape(x, 5, BYTES, 7, 8, -9);
        due.is("peek(5, 0)", 7, x.peek(5, 0));
        due.is("peek(5, 2)", -9, x.peek(5, 2));
    }

    // ---- shift

    private static StairPaths two(int sort) {
        StairPaths x = new StairPaths();
        Stairs.tape(x, 0, sort, 1, 2, 3, 4, 5);
        Stairs.tape(x, 1, sort, 6, 7, 8);
        return x;
    }

    private static void shiftAll() {
        StairPaths x = two(BYTES);
        due.is("shift of a whole row", 3, x.shift(1, 0, 0, 0, 3));
        due.is("the row", "6 7 8 4 5", Stairs.items(x, 0));
        due.is("the other row", "6 7 8", Stairs.items(x, 1));
        x.tape(2, BYTES, 60);
        x.tape(3, BYTES, 60);
        x.item(2, 59, 1);
        due.is("shift of 60", 60, x.shift(2, 0, 3, 0, 60));
        due.is("the last item", 1, x.peek(3, 59));
    }

    private static void shiftNone() {
        StairPaths x = two(BYTES);
        due.is("shift of 0 from the first", 0, x.shift(0, 0, 1, 0, 0));
        due.is("shift of 0 from the last", 0, x.shift(0, 4, 1, 2, 0));
        due.is("shift of 0 at the ends", 0, x.shift(0, 5, 1, 3, 0));
        Stairs.tape(x, 2, BYTES);
        due.is("shift of 0 of a row of 0", 0, x.shift(2, 0, 2, 0, 0));
        due.is("the row", "1 2 3 4 5", Stairs.items(x, 0));
        due.is("the other row", "6 7 8", Stairs.items(x, 1));
    }

    private static void shiftFirstAndLast() {
        StairPaths x = two(INTS);
        due.is("shift of the last to the last", 1, x.shift(0, 4, 1, 2, 1));
        due.is("the other row", "6 7 5", Stairs.items(x, 1));
        due.is("shift of the first to the first", 1, x.shift(0, 0, 1, 0, 1));
        due.is("the other row", "1 7 5", Stairs.items(x, 1));
        due.is("shift of the last three", 3, x.shift(0, 2, 1, 0, 3));
        due.is("the other row", "3 4 5", Stairs.items(x, 1));
        due.is("the row", "1 2 3 4 5", Stairs.items(x, 0));
    }

    private static void shiftOfEachSort() {
        for (int sort = BYTES; sort <= BOOLEANS; sort++) {
            StairPaths x = new StairPaths();
            Stairs.tape(x, 4, sort, 1, 0, 1);
            Stairs.tape(x, 5, sort, 0, 1, 0);
            due.is("shift of sort " + sort, 2, x.shift(4, 0, 5, 1, 2));
            due.is("the row", "0 1 0", Stairs.items(x, 5));
        }
    }

    private static void shiftWithinOne(int i, int j, int n, String want) {
        for (int sort = BYTES; sort <= BOOLEANS; sort++) {
            StairPaths x = new StairPaths();
            Stairs.tape(x, 0, sort, 1, 0, 1, 1, 0);
            due.is("shift of sort " + sort + " from " + i + " to " + j, n, x.shift(0, i, 0, j, n));
            due.is("the row", want, Stairs.items(x, 0));
        }
    }

    private static void shiftBehindWithinOne() {
        shiftWithinOne(0, 1, 4, "1 1 0 1 1");
        shiftWithinOne(0, 2, 3, "1 0 1 0 1");
        shiftWithinOne(1, 2, 3, "1 0 0 1 1");
        StairPaths x = two(LONGS);
        due.is("shift by 1 behind", 4, x.shift(0, 0, 0, 1, 4));
        due.is("the row", "1 1 2 3 4", Stairs.items(x, 0));
    }

    private static void shiftAheadWithinOne() {
        shiftWithinOne(1, 0, 4, "0 1 1 0 0");
        shiftWithinOne(2, 0, 3, "1 1 0 1 0");
        StairPaths x = two(LONGS);
        due.is("shift by 1 ahead", 4, x.shift(0, 1, 0, 0, 4));
        due.is("the row", "2 3 4 5 5", Stairs.items(x, 0));
    }

    private static void shiftOntoItself() {
        shiftWithinOne(0, 0, 5, "1 0 1 1 0");
        shiftWithinOne(2, 2, 2, "1 0 1 1 0");
    }

    // ---- shift refused

    private static void rowsAreAsTheyWere(StairPaths x) {
        due.is("the row", "1 2 3 4 5", Stairs.items(x, 0));
        due.is("the other row", "6 7 8", Stairs.items(x, 1));
    }

    private static void shiftNoTapes() {
        StairPaths x = two(BYTES);
        for (int tape : NO_TAPES) {
            due.is("shift of TAPE " + tape, StairPaths.NONE, x.shift(tape, 0, 0, 0, 1));
            due.is("shift to TAPE " + tape, StairPaths.NONE, x.shift(0, 0, tape, 0, 1));
        }
        rowsAreAsTheyWere(x);
    }

    private static void shiftNothing() {
        StairPaths x = two(BYTES);
        due.is("shift of nothing", Stairs.NOTHING, x.shift(2, 0, 0, 0, 1));
        due.is("shift to nothing", Stairs.NOTHING, x.shift(0, 0, 2, 0, 1));
        due.is("shift of nothing to nothing", Stairs.NOTHING, x.shift(2, 0, 3, 0, 0));
        due.is("shift of nothing to itself", Stairs.NOTHING, x.shift(2, 0, 2, 0, 0));
        rowsAreAsTheyWere(x);
    }

    private static void shiftUnlikeSorts() {
        for (int sort = BYTES; sort <= BOOLEANS; sort++) {
            for (int other = BYTES; other <= BOOLEANS; other++) {
                StairPaths x = new StairPaths();
                Stairs.tape(x, 0, sort, 1, 0);
                Stairs.tape(x, 1, other, 0, 1);
                due.is("shift of sort " + sort + " to " + other, sort == other ? 2 : Stairs.CAST, x.shift(0, 0, 1, 0, 2));
                due.is("the other row", sort == other ? "1 0" : "0 1", Stairs.items(x, 1));
                due.is("shift of 0 items", sort == other ? 0 : Stairs.CAST, x.shift(0, 0, 1, 0, 0));
            }
        }
    }

    /** TAPE 0 has 5 items and TAPE 1 has 3, of each sort in turn. */
    private static void shiftHasNoPlace(String what, int tape, int i, int other, int j, int n) {
        for (int sort = BYTES; sort <= BOOLEANS; sort++) {
            StairPaths x = new StairPaths();
            Stairs.tape(x, 0, sort, 1, 1, 1, 1, 1);
            Stairs.tape(x, 1, sort, 0, 0, 0);
            due.is("shift " + what + ", sort " + sort, Stairs.PLACE, x.shift(tape, i, other, j, n));
            due.is("the row", "1 1 1 1 1", Stairs.items(x, 0));
            due.is("the other row", "0 0 0", Stairs.items(x, 1));
        }
    }

    private static void shiftBelow() {
        for (int below : BELOW) {
            shiftHasNoPlace("from " + below, 0, below, 1, 0, 1);
            shiftHasNoPlace("to " + below, 0, 0, 1, below, 1);
            shiftHasNoPlace("of " + below, 0, 0, 1, 0, below);
            shiftHasNoPlace("of 0 from " + below, 0, below, 1, 0, 0);
            shiftHasNoPlace("of 0 to " + below, 0, 0, 1, below, 0);
            shiftHasNoPlace("within one, of " + below, 0, 3, 0, 3, below);
        }
    }

    private static void shiftBeyondTheEnd() {
        shiftHasNoPlace("of 1 beyond the first's end", 0, 5, 1, 0, 1);
        shiftHasNoPlace("of 3, 1 too many for the first", 0, 3, 1, 0, 3);
        shiftHasNoPlace("of 1 beyond the other's end", 0, 0, 1, 3, 1);
        shiftHasNoPlace("of 3, 1 too many for the other", 0, 0, 1, 1, 3);
        shiftHasNoPlace("of 4, 1 too many for the other", 0, 0, 1, 0, 4);
        shiftHasNoPlace("of 4, 1 too many for the first", 1, 0, 0, 0, 4);
        shiftHasNoPlace("within one, 1 too many", 0, 0, 0, 1, 5);
        shiftHasNoPlace("of 0, 1 behind the first's end", 0, 6, 1, 0, 0);
        shiftHasNoPlace("of 0, 1 behind the other's end", 0, 0, 1, 4, 0);
    }

    private static void shiftFarBeyondTheEnd() {
        int most = Stairs.MAX;
        shiftHasNoPlace("of MAX", 0, 0, 1, 0, most);
        shiftHasNoPlace("of MAX from 1 and to 1", 0, 1, 1, 1, most);
        shiftHasNoPlace("from MAX", 0, most, 1, 0, 1);
        shiftHasNoPlace("from MAX of 2, which would wrap around", 0, most, 1, 0, 2);
        shiftHasNoPlace("to MAX", 0, 0, 1, most, 1);
        shiftHasNoPlace("to MAX of 2, which would wrap around", 0, 0, 1, most, 2);
        shiftHasNoPlace("of 0 from MAX", 0, most, 1, 0, 0);
        shiftHasNoPlace("all MAX", 0, most, 1, most, most);
    }

    private static void shiftInTheirOrder() {
        StairPaths x = two(BYTES);
        Stairs.tape(x, 2, INTS, 9);
        due.is("no TAPE and nothing", StairPaths.NONE, x.shift(6, 0, 3, 0, 1));
        due.is("nothing and no TAPE", StairPaths.NONE, x.shift(3, 0, 6, 0, 1));
        due.is("no TAPE and no place", StairPaths.NONE, x.shift(0, -1, -1, -1, -1));
        due.is("nothing and no place", Stairs.NOTHING, x.shift(3, -1, 0, 0, 1));
        due.is("no place to nothing", Stairs.NOTHING, x.shift(0, -1, 3, 0, 1));
        due.is("unlike sorts and no place", Stairs.CAST, x.shift(0, 9, 2, 0, 1));
        due.is("unlike sorts and n below 0", Stairs.CAST, x.shift(2, 0, 0, 0, -1));
        rowsAreAsTheyWere(x);
    }
}
