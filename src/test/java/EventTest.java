/** Promises 24 to 27 and 29 to 31: event, after, book, looked, image, undo, count. */
public final class EventTest {
    private static final Due due = new Due("EventTest");

    public static void main(String[] args) {
        event();
        after();
        book();
        looked();
        imageAndUndo();
        imageLeavesTextAndTapes();
        count();
        due.end();
    }

    private static void event() {
        StairPaths x = new StairPaths();
        for (int what : new int[] {4, -2, Integer.MIN_VALUE, Integer.MAX_VALUE}) {
            due.is("event(" + what + ", 99)", StairPaths.NONE, x.event(what, 99));
        }
        for (int what = 0; what < 2; what++) {
            due.is("event(" + what + ", 1)", StairPaths.BAD, x.event(what, 1));
            due.is("event(" + what + ", -1)", StairPaths.BAD, x.event(what, -1));
        }
        for (int what = 2; what < 4; what++) {
            due.is("event(" + what + ", 9)", StairPaths.BAD, x.event(what, 9));
            due.is("event(" + what + ", -1)", StairPaths.BAD, x.event(what, -1));
        }
        due.is("none", 0, x.count(1));
        due.is("event(0, 0)", 1, x.event(0, 0));
        due.is("event(1, 0)", 2, x.event(1, 0));
        due.is("event(2, 0)", 3, x.event(2, 0));
        due.is("event(2, 8)", 4, x.event(2, 8));
        due.is("event(3, 0)", 5, x.event(3, 0));
        due.is("event(3, 8)", 6, x.event(3, 8));
        due.is("event(1, 0)", 7, x.event(1, 0));
        due.is("event(1, 0)", 8, x.event(1, 0));
        due.is("event, full", StairPaths.FULL, x.event(1, 0));
        due.is("event(1, 1), full", StairPaths.BAD, x.event(1, 1));
        due.is("event(4, 0), full", StairPaths.NONE, x.event(4, 0));
        due.is("event(-1, 77)", 0, x.event(-1, 77));
        due.is("event anew", 1, x.event(1, 0));
    }

    private static void after() {
        StairPaths x = new StairPaths();
        x.size(4);
        x.choose(10);
        due.is("after nothing", 10, x.after(0));
        due.is("after nothing, AREA", x.of(10, 0), x.after(1));
        due.is("after nothing, BOUNCE", x.of(10, 1), x.after(2));
        x.event(0, 0);
        due.is("after MAP", 7, x.after(0));
        x.event(1, 0);
        due.is("after TURNED", x.mapped(7, 1), x.after(0));
        x.event(2, 3);
        x.event(3, 2);
        due.is("after all, number", 5, x.after(0));
        due.is("after all, AREA", 3, x.after(1));
        due.is("after all, BOUNCE", 2, x.after(2));
        due.is("CHOSEN stays", 10, x.told(2));
        for (int what : new int[] {3, -1, Integer.MIN_VALUE, Integer.MAX_VALUE}) {
            due.is("after(" + what + ")", StairPaths.NONE, x.after(what));
        }
        x.event(-1, 0);
        x.size(3);
        x.choose(2);
        x.event(1, 0);
        due.is("TURNED nneene", 3, x.after(0));
        x.event(-1, 0);
        x.size(2);
        x.event(3, 1);
        due.is("LOWERED", 1, x.after(0));
        x.event(3, 0);
        due.is("LOWERED, no PATH", 1, x.after(0));
        x.event(2, 8);
        due.is("RAISED where no STEP is", 1, x.after(0));
        x.event(2, 3);
        due.is("RAISED behind the last place", 1, x.after(0));
        x.event(2, 1);
        due.is("RAISED", 0, x.after(0));
        due.is("AREA", 1, x.after(1));
        due.is("BOUNCE", 0, x.after(2));
        x.choose(1);
        due.is("from CHOSEN now", 0, x.after(0));
    }

    private static void book() {
        StairPaths x = new StairPaths();
        due.is("book(5, 11)", StairPaths.NONE, x.book(5, 11));
        due.is("book(-2, 0)", StairPaths.NONE, x.book(-2, 0));
        due.is("book(MIN, 0)", StairPaths.NONE, x.book(Integer.MIN_VALUE, 0));
        due.is("book(0, 11)", StairPaths.BAD, x.book(0, 11));
        due.is("book(0, -1)", StairPaths.BAD, x.book(0, -1));
        for (int i = 0; i < 8; i++) {
            due.is("book", i + 1, x.book(i % 5, i + 3));
        }
        due.is("book, full", StairPaths.FULL, x.book(0, 0));
        due.is("book(0, 11), full", StairPaths.BAD, x.book(0, 11));
        due.is("book(5, 0), full", StairPaths.NONE, x.book(5, 0));
        due.is("book(-1, -7)", 0, x.book(-1, -7));
        x.size(5);
        due.is("book(41, 10)", 1, x.book(41, 10));
        due.is("book(42, 0)", StairPaths.NONE, x.book(42, 0));
    }

    private static void looked() {
        StairPaths x = new StairPaths();
        due.is("looked, empty", -5, x.looked());
        x.book(0, 3);
        x.book(4, 0);
        due.is("looked, all so", -5, x.looked());
        x.book(1, 3);
        x.book(1, 4);
        due.is("looked, another AREA", 2, x.looked());
        x.size(2);
        due.is("looked, AREA of another n", 0, x.looked());
        x.size(3);
        due.is("looked, back", 2, x.looked());
        x.book(-1, 0);
        x.book(0, 3);
        x.book(4, 0);
        x.size(2);
        x.book(-1, 0);
        x.book(0, 1);
        due.is("looked", -5, x.looked());
        x.size(3);
        x.book(-1, 0);
        x.book(2, 0);
        x.size(2);
        due.is("looked, no such PATH", 0, x.looked());
    }

    private static void imageAndUndo() {
        StairPaths x = new StairPaths();
        due.is("undo, no image", StairPaths.STATE, x.undo());
        x.size(4);
        x.choose(3);
        x.exchange(0, 3);
        x.see(0, 4);
        x.event(0, 0);
        x.book(3, 3);
        due.is("image", 3, x.image());
        int fits = x.fits();
        int after = x.after(0);
        int looked = x.looked();
        x.size(5);
        x.see(-1, 0);
        x.see(1, 1);
        x.see(2, 2);
        x.event(-1, 0);
        x.event(2, 3);
        x.event(1, 0);
        x.book(-1, 0);
        x.book(0, 0);
        x.book(9, 9);
        due.is("undo", 3, x.undo());
        due.is("n", 4, x.told(0));
        due.is("CHOSEN", 3, x.told(2));
        due.is("label 0", 4, x.label(0, 0));
        due.is("label 3", 1, x.label(3, 0));
        due.is("SEEN", 1, x.count(0));
        due.is("FITS", fits, x.fits());
        due.is("EVENTS", 1, x.count(1));
        due.is("AFTER", after, x.after(0));
        due.is("BOOK", 1, x.count(2));
        due.is("LOOKED", looked, x.looked());
        x.exchange(1, 2);
        x.see(4, 5);
        due.is("undo again", 3, x.undo());
        due.is("label 1", 2, x.label(1, 0));
        due.is("SEEN", 1, x.count(0));
        x.choose(7);
        due.is("image anew", 7, x.image());
        x.choose(2);
        due.is("undo to the new one", 7, x.undo());
    }

    private static void imageLeavesTextAndTapes() {
        StairPaths x = new StairPaths();
        x.feed(65);
        x.tape(0, 0, 2);
        x.item(0, 1, 5);
        x.image();
        x.feed(66);
        x.item(0, 1, 6);
        x.tape(1, 3, 1);
        x.undo();
        due.is("THE TEXT stays", 2, x.count(3));
        due.is("the TAPE stays", 6, x.peek(0, 1));
        due.is("the other TAPE stays", 0, x.peek(1, 0));
    }

    private static void count() {
        StairPaths x = new StairPaths();
        x.see(0, 1);
        x.see(0, 2);
        x.see(0, 3);
        x.see(0, 4);
        x.event(0, 0);
        x.event(0, 0);
        x.event(0, 0);
        x.book(0, 0);
        x.book(0, 0);
        x.feed(10);
        due.is("SEEN", 4, x.count(0));
        due.is("EVENTS", 3, x.count(1));
        due.is("BOOK", 2, x.count(2));
        due.is("THE TEXT", 1, x.count(3));
        for (int what : new int[] {4, -1, Integer.MIN_VALUE, Integer.MAX_VALUE}) {
            due.is("count(" + what + ")", StairPaths.BAD, x.count(what));
        }
    }
}
