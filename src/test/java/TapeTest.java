/** Promises 28 and 32 to 35: judge, tape, item, peek, shift. */
public final class TapeTest {
    private static final Due due = new Due("TapeTest");
    private static final int NOTHING = -11, CAST = -12, PLACE = -13, SIZE = -14;
    private static final int[] NO_TAPES = {-1, 6, Integer.MIN_VALUE, Integer.MAX_VALUE};

    public static void main(String[] args) {
        judge();
        tape();
        item();
        peek();
        shift();
        shiftRefused();
        due.end();
    }

    private static void judge() {
        StairPaths x = new StairPaths();
        for (int tape : NO_TAPES) {
            due.is("judge(" + tape + ", 0)", StairPaths.NONE, x.judge(tape, 0));
        }
        due.is("judge, holds nothing", 100, x.judge(5, 3));
        due.is("judge, holds nothing, below 0", 100, x.judge(5, -3));
        for (int sort = 1; sort < 5; sort++) {
            x.tape(1, sort, 5);
            due.is("judge, sort " + sort, CAST, x.judge(1, 0));
            due.is("judge, sort " + sort + ", below 0", CAST, x.judge(1, -1));
        }
        x.tape(0, 0, 0);
        due.is("judge, a row of 0", 100, x.judge(0, 0));
        x.tape(0, 0, 5);
        x.item(0, 0, 9);
        x.item(0, 2, 1);
        x.item(0, 3, 2);
        x.item(0, 4, 7);
        due.is("judge PATH 0, all so", -5, x.judge(0, 1));
        due.is("judge, the first is otherwise", 0, x.judge(0, 0));
        due.is("judge, the row ends", 100, x.judge(0, 5));
        due.is("judge, far behind", 100, x.judge(0, Integer.MAX_VALUE));
        due.is("judge, below 0", 100, x.judge(0, -1));
        due.is("judge, far below 0", 100, x.judge(0, Integer.MIN_VALUE));
        x.choose(1);
        due.is("judge PATH 1, the last is otherwise", 2, x.judge(0, 1));
        x.choose(4);
        due.is("judge PATH 4, the second is otherwise", 1, x.judge(0, 1));
        x.choose(0);
        x.tape(0, 0, 5);
        x.item(0, 4, 1);
        due.is("judge, otherwise ahead of the end", 0, x.judge(0, 4));
        x.item(0, 4, 0);
        due.is("judge, ends behind one", 101, x.judge(0, 4));
        x.item(0, 4, 1);
        due.is("judge, ends behind two", 102, x.judge(0, 3));
        x.item(0, 4, 257);
        due.is("judge, cut to a byte", 102, x.judge(0, 3));
        due.is("judge, the second is otherwise", 1, x.judge(0, 2));
        x.item(0, 3, 1);
        x.item(0, 4, 2);
        due.is("judge, ends just behind the last ROW", -5, x.judge(0, 2));
    }

    private static void tape() {
        StairPaths x = new StairPaths();
        for (int tape : NO_TAPES) {
            due.is("tape(" + tape + ", 9, -1)", StairPaths.NONE, x.tape(tape, 9, -1));
            due.is("tape(" + tape + ", -1, 0)", StairPaths.NONE, x.tape(tape, -1, 0));
        }
        for (int sort : new int[] {-2, 5, Integer.MIN_VALUE, Integer.MAX_VALUE}) {
            due.is("tape(0, " + sort + ", 1)", StairPaths.BAD, x.tape(0, sort, 1));
            due.is("tape(0, " + sort + ", -1)", StairPaths.BAD, x.tape(0, sort, -1));
        }
        due.is("tape(0, 0, 61)", StairPaths.BAD, x.tape(0, 0, 61));
        due.is("tape(0, 0, MAX)", StairPaths.BAD, x.tape(0, 0, Integer.MAX_VALUE));
        due.is("tape(0, 0, -1)", SIZE, x.tape(0, 0, -1));
        due.is("tape(0, 0, MIN)", SIZE, x.tape(0, 0, Integer.MIN_VALUE));
        due.is("still nothing", NOTHING, x.item(0, 0, 0));
        due.is("tape(0, 0, 60)", 1, x.tape(0, 0, 60));
        due.is("item 59", 1, x.item(0, 59, 3));
        due.is("tape, refused", SIZE, x.tape(0, 0, -1));
        due.is("item 59 stays", 3, x.peek(0, 59));
        x.item(0, 0, 4);
        due.is("tape anew", 1, x.tape(0, 0, 60));
        due.is("all 0, the first", 0, x.peek(0, 0));
        due.is("all 0", 0, x.peek(0, 59));
        due.is("tape(0, 4, 0)", 1, x.tape(0, 4, 0));
        due.is("a row of 0 is something", PLACE, x.item(0, 0, 0));
        due.is("tape(0, -1, -9)", 1, x.tape(0, -1, -9));
        due.is("nothing again", NOTHING, x.item(0, 0, 0));
        due.is("nothing to peek at again", StairPaths.NO, x.peek(0, 0));
        due.is("tape(0, -1, 99)", 1, x.tape(0, -1, 99));
    }

    private static void item() {
        StairPaths x = new StairPaths();
        long value = 0x123456789ABCDEF0L;
        long[] cut = {(byte) value, (short) value, (int) value, value, 1};
        long[] least = {-128, -32768, Integer.MIN_VALUE, 1L << 31, 1};
        long[] around = {127, 32767, Integer.MAX_VALUE, Long.MAX_VALUE, 1};
        for (int sort = 0; sort < 5; sort++) {
            x.tape(sort, sort, 3);
            due.is("item, sort " + sort, 1, x.item(sort, 0, value));
            due.is("cut, sort " + sort, cut[sort], x.peek(sort, 0));
            x.item(sort, 1, 1L << (sort == 0 ? 7 : sort == 1 ? 15 : 31));
            due.is("highest bit, sort " + sort, least[sort], x.peek(sort, 1));
            x.item(sort, 2, around[sort]);
            due.is("greatest, sort " + sort, around[sort], x.peek(sort, 2));
            x.item(sort, 2, 1L << 62);
            due.is("above an item's bits, sort " + sort, sort == 3 ? 1L << 62 : sort == 4 ? 1 : 0, x.peek(sort, 2));
            due.is("item below, sort " + sort, PLACE, x.item(sort, -1, 0));
            due.is("item behind, sort " + sort, PLACE, x.item(sort, 3, 0));
            due.is("item far below, sort " + sort, PLACE, x.item(sort, Integer.MIN_VALUE, 0));
        }
        x.item(4, 0, 0);
        due.is("false", 0, x.peek(4, 0));
        due.is("item of nothing", NOTHING, x.item(5, -1, 0));
        for (int tape : NO_TAPES) {
            due.is("item(" + tape + ", 0, 0)", StairPaths.NONE, x.item(tape, 0, 0));
        }
    }

    private static void peek() {
        StairPaths x = new StairPaths();
        x.tape(2, 3, 4);
        x.item(2, 3, -77);
        due.is("peek(2, 3)", -77, x.peek(2, 3));
        due.is("peek(2, 2)", 0, x.peek(2, 2));
        due.is("peek(2, 4)", StairPaths.NO, x.peek(2, 4));
        due.is("peek(2, -1)", StairPaths.NO, x.peek(2, -1));
        due.is("peek(2, MAX)", StairPaths.NO, x.peek(2, Integer.MAX_VALUE));
        due.is("peek of nothing", StairPaths.NO, x.peek(3, 0));
        for (int tape : NO_TAPES) {
            due.is("peek(" + tape + ", 0)", StairPaths.NO, x.peek(tape, 0));
        }
    }

    private static void fill(StairPaths x, int tape, int sort, int n) {
        x.tape(tape, sort, n);
        for (int i = 0; i < n; i++) {
            x.item(tape, i, i + 1);
        }
    }

    private static void holds(StairPaths x, int tape, int... items) {
        for (int i = 0; i < items.length; i++) {
            due.is("item " + i + " of " + tape, items[i], x.peek(tape, i));
        }
        due.is("end of " + tape, StairPaths.NO, x.peek(tape, items.length));
    }

    private static void shift() {
        StairPaths x = new StairPaths();
        fill(x, 0, 1, 5);
        x.tape(1, 1, 4);
        due.is("shift", 2, x.shift(0, 3, 1, 2, 2));
        holds(x, 1, 0, 0, 4, 5);
        holds(x, 0, 1, 2, 3, 4, 5);
        due.is("shift up within", 4, x.shift(0, 0, 0, 1, 4));
        holds(x, 0, 1, 1, 2, 3, 4);
        fill(x, 0, 1, 5);
        due.is("shift down within", 4, x.shift(0, 1, 0, 0, 4));
        holds(x, 0, 2, 3, 4, 5, 5);
        due.is("shift none, at the ends", 0, x.shift(0, 5, 1, 4, 0));
        due.is("shift onto itself", 5, x.shift(0, 0, 0, 0, 5));
        holds(x, 0, 2, 3, 4, 5, 5);
    }

    private static void shiftRefused() {
        StairPaths x = new StairPaths();
        fill(x, 0, 0, 5);
        fill(x, 1, 0, 3);
        fill(x, 2, 4, 3);
        for (int tape : NO_TAPES) {
            due.is("shift(" + tape + ", ..)", StairPaths.NONE, x.shift(tape, 0, 0, 0, -1));
            due.is("shift(.., " + tape + ", ..)", StairPaths.NONE, x.shift(5, 0, tape, 0, 0));
        }
        due.is("shift of nothing", NOTHING, x.shift(5, 0, 0, 0, -1));
        due.is("shift to nothing", NOTHING, x.shift(0, 0, 5, 0, -1));
        due.is("shift of unlike sorts", CAST, x.shift(0, 0, 2, 0, -1));
        int[][] places = {{0, 0, -1}, {-1, 0, 1}, {0, -1, 1}, {-1, 0, 0}, {0, -1, 0}, {5, 0, 1}, {0, 3, 1}, {4, 0, 2},
            {0, 2, 2}, {6, 0, 0}, {0, 4, 0}, {0, 0, 4}, {0, 0, Integer.MAX_VALUE}, {Integer.MAX_VALUE, 0, 2},
            {0, Integer.MAX_VALUE, 2}, {Integer.MIN_VALUE, 0, 1}, {0, 0, Integer.MIN_VALUE},
            {Integer.MAX_VALUE, Integer.MAX_VALUE, Integer.MAX_VALUE}};
        for (int[] place : places) {
            due.is("shift(0, " + place[0] + ", 1, " + place[1] + ", " + place[2] + ")", PLACE,
                x.shift(0, place[0], 1, place[1], place[2]));
        }
        holds(x, 1, 1, 2, 3);
    }
}
