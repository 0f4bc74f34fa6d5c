/** Promises 1 to 9: a new object, size, choose, becomes, raise, lower, exchange, feed, read. */
public final class PathTest {
    private static final Due due = new Due("PathTest");

    public static void main(String[] args) {
        newObject();
        size();
        choose();
        becomes();
        raise();
        lower();
        exchange();
        feed();
        readFaults();
        readClauses();
        readRefused();
        labelsBeginAnew();
        due.end();
    }

    private static void feedAll(StairPaths x, String text) {
        for (int i = 0; i < text.length(); i++) {
            due.is("feed in " + text, i + 1, x.feed(text.charAt(i)));
        }
    }

    private static int readOf(StairPaths x, String text) {
        feedAll(x, text);
        return x.read();
    }

    private static void fault(int place, String text) {
        StairPaths x = new StairPaths();
        x.choose(2);
        due.is("fault in <" + text + ">", -10 - place, readOf(x, text));
        due.is("CHOSEN behind the fault in <" + text + ">", 2, x.told(2));
        due.is("n behind the fault in <" + text + ">", 3, x.told(0));
        due.is("THE TEXT behind the fault in <" + text + ">", 0, x.count(3));
    }

    private static void newObject() {
        StairPaths x = new StairPaths();
        due.is("1 n", 3, x.told(0));
        due.is("1 CHOSEN", 0, x.told(2));
        for (int i = 0; i < 3; i++) {
            due.is("1 label", i + 1, x.label(i, 0));
        }
        for (int what = 0; what < 4; what++) {
            due.is("1 count", 0, x.count(what));
        }
        for (int tape = 0; tape < 6; tape++) {
            due.is("1 tape", StairPaths.NO, x.peek(tape, 0));
        }
        due.is("1 undo", StairPaths.STATE, x.undo());
    }

    private static void size() {
        StairPaths x = new StairPaths();
        due.is("size(1)", StairPaths.BAD, x.size(1));
        due.is("size(6)", StairPaths.BAD, x.size(6));
        due.is("size(-3)", StairPaths.BAD, x.size(-3));
        due.is("size(MIN)", StairPaths.BAD, x.size(Integer.MIN_VALUE));
        due.is("size(MAX)", StairPaths.BAD, x.size(Integer.MAX_VALUE));
        due.is("n stays", 3, x.told(0));
        x.choose(4);
        x.exchange(0, 2);
        x.see(1, 1);
        x.event(0, 0);
        x.book(1, 1);
        x.feed(65);
        due.is("size(5)", 3, x.size(5));
        due.is("CHOSEN", 0, x.told(2));
        due.is("PATHS of 5", 42, x.told(1));
        due.is("label", 1, x.label(0, 0));
        due.is("label", 5, x.label(4, 0));
        for (int what = 0; what < 4; what++) {
            due.is("stays behind size: " + what, 1, x.count(what));
        }
        x.choose(7);
        due.is("size(5) again", 5, x.size(5));
        due.is("CHOSEN is 0 by the same size", 0, x.told(2));
        due.is("size(2)", 5, x.size(2));
        due.is("PATHS of 2", 2, x.told(1));
        due.is("size(4)", 2, x.size(4));
        due.is("PATHS of 4", 14, x.told(1));
        due.is("size(3)", 4, x.size(3));
        due.is("PATHS of 3", 5, x.told(1));
    }

    private static void choose() {
        StairPaths x = new StairPaths();
        due.is("choose(4)", 0, x.choose(4));
        due.is("choose(1)", 4, x.choose(1));
        due.is("choose(5)", StairPaths.NONE, x.choose(5));
        due.is("choose(-1)", StairPaths.NONE, x.choose(-1));
        due.is("choose(MAX)", StairPaths.NONE, x.choose(Integer.MAX_VALUE));
        due.is("choose(MIN)", StairPaths.NONE, x.choose(Integer.MIN_VALUE));
        due.is("CHOSEN", 1, x.told(2));
        x.size(5);
        due.is("choose(41)", 0, x.choose(41));
        due.is("choose(42)", StairPaths.NONE, x.choose(42));
        due.is("CHOSEN", 41, x.told(2));
    }

    private static void becomes() {
        StairPaths x = new StairPaths();
        x.choose(2);
        due.is("MAP of 2", 1, x.becomes(0));
        due.is("CHOSEN", 1, x.told(2));
        due.is("MAP of 1", 3, x.becomes(0));
        due.is("BACK of 3", 1, x.becomes(2));
        due.is("BACK of 1", 2, x.becomes(2));
        due.is("TURNED 2", 3, x.becomes(1));
        due.is("TURNED 3", 2, x.becomes(1));
        due.is("becomes(3)", StairPaths.NONE, x.becomes(3));
        due.is("becomes(-1)", StairPaths.NONE, x.becomes(-1));
        due.is("becomes(MIN)", StairPaths.NONE, x.becomes(Integer.MIN_VALUE));
        due.is("CHOSEN", 2, x.told(2));
    }

    private static void raise() {
        StairPaths x = new StairPaths();
        x.choose(4);
        due.is("raise(0), n there", StairPaths.STATE, x.raise(0));
        due.is("raise(4), n there", StairPaths.STATE, x.raise(4));
        due.is("raise(5)", StairPaths.BAD, x.raise(5));
        due.is("raise(-1)", StairPaths.BAD, x.raise(-1));
        due.is("raise(MIN)", StairPaths.BAD, x.raise(Integer.MIN_VALUE));
        due.is("raise(MAX)", StairPaths.BAD, x.raise(Integer.MAX_VALUE));
        due.is("CHOSEN stays", 4, x.told(2));
        due.is("raise(1)", 2, x.raise(1));
        due.is("raise(2), n there", StairPaths.STATE, x.raise(2));
        due.is("raise(3)", 1, x.raise(3));
        due.is("raise(2)", 0, x.raise(2));
        due.is("raise(3), e e", StairPaths.STATE, x.raise(3));
        x.size(5);
        due.is("raise(8)", StairPaths.STATE, x.raise(8));
        due.is("raise(9)", StairPaths.BAD, x.raise(9));
        x.size(2);
        due.is("raise(2)", StairPaths.STATE, x.raise(2));
        due.is("raise(3)", StairPaths.BAD, x.raise(3));
    }

    private static void lower() {
        StairPaths x = new StairPaths();
        due.is("lower(0), n n", StairPaths.STATE, x.lower(0));
        due.is("lower(3), e e", StairPaths.STATE, x.lower(3));
        due.is("lower(5)", StairPaths.BAD, x.lower(5));
        due.is("lower(-1)", StairPaths.BAD, x.lower(-1));
        due.is("lower(MIN)", StairPaths.BAD, x.lower(Integer.MIN_VALUE));
        due.is("lower(MAX)", StairPaths.BAD, x.lower(Integer.MAX_VALUE));
        due.is("lower(2)", 1, x.lower(2));
        due.is("lower(1)", 3, x.lower(1));
        due.is("lower(0), no PATH", StairPaths.STATE, x.lower(0));
        due.is("lower(3)", 4, x.lower(3));
        due.is("lower(2), no PATH", StairPaths.STATE, x.lower(2));
        due.is("lower(4), no PATH", StairPaths.STATE, x.lower(4));
        due.is("CHOSEN", 4, x.told(2));
    }

    private static void exchange() {
        StairPaths x = new StairPaths();
        due.is("exchange(0, 3)", StairPaths.NONE, x.exchange(0, 3));
        due.is("exchange(3, 0)", StairPaths.NONE, x.exchange(3, 0));
        due.is("exchange(-1, 0)", StairPaths.NONE, x.exchange(-1, 0));
        due.is("exchange(0, -1)", StairPaths.NONE, x.exchange(0, -1));
        due.is("exchange(1, 1)", StairPaths.NONE, x.exchange(1, 1));
        due.is("exchange(MIN, MAX)", StairPaths.NONE, x.exchange(Integer.MIN_VALUE, Integer.MAX_VALUE));
        due.is("exchange(0, 2) of one run", 0, x.exchange(0, 2));
        due.is("label 0", 3, x.label(0, 0));
        due.is("label 1", 2, x.label(1, 0));
        due.is("label 2", 1, x.label(2, 0));
        due.is("exchange(2, 0) back", 1, x.exchange(2, 0));
        x.choose(4);
        due.is("exchange(0, 2) of three runs", 1, x.exchange(0, 2));
        x.choose(3);
        due.is("exchange(1, 2) within a run", 0, x.exchange(1, 2));
        due.is("exchange(0, 1) over runs", 1, x.exchange(0, 1));
        due.is("exchange(1, 2) within a run again", 0, x.exchange(1, 2));
    }

    private static void feed() {
        StairPaths x = new StairPaths();
        due.is("feed(-1)", StairPaths.BAD, x.feed(-1));
        due.is("feed(128)", StairPaths.BAD, x.feed(128));
        due.is("feed(MIN)", StairPaths.BAD, x.feed(Integer.MIN_VALUE));
        due.is("nothing fed", 0, x.count(3));
        for (int i = 0; i < 100; i++) {
            due.is("feed", i + 1, x.feed(i % 2 == 0 ? 0 : 127));
        }
        due.is("feed, full", StairPaths.FULL, x.feed(65));
        due.is("feed(128), full", StairPaths.BAD, x.feed(128));
        due.is("count", 100, x.count(3));
        due.is("read", -10, x.read());
        due.is("feed behind read", 1, x.feed(65));
    }

    private static void readFaults() {
        fault(0, "");
        fault(0, "x");
        fault(0, ";");
        fault(0, " map");
        fault(0, "Map");
        fault(2, "ma");
        fault(2, "maP");
        fault(3, "map ");
        fault(3, "mapmap");
        fault(4, "map;");
        fault(4, "map;;");
        fault(4, "map; map");
        fault(4, "turn ");
        fault(3, "tur");
        fault(4, "size");
        fault(5, "size ");
        fault(4, "size4");
        fault(5, "size  4");
        fault(5, "size x");
        fault(5, "size -1");
        fault(6, "size 44");
        fault(6, "size 4 ");
        fault(5, "path ");
        fault(5, "path ;");
        fault(5, "path N");
        fault(6, "path n ");
        fault(7, "path nex");
        fault(15, "path nnnnneeeeen");
        fault(3, "up ");
        fault(3, "up ;");
        fault(2, "up1");
        fault(4, "up 12");
        fault(5, "down ");
        fault(6, "down 1x");
        fault(1, "dn 1");
        fault(6, "label ");
        fault(6, "label ;");
        fault(11, "label 123451");
        fault(7, "label 1 2");
        fault(1, "lower 1");
        fault(7, "size 4;\0");
        fault(47, "map;map;map;map;map;map;map;map;map;map;map;map;map");
        fault(47, "map;map;map;map;map;map;map;map;map;map;map;map;");
        fault(47, "map;map;map;map;map;map;map;map;map;map;map;mapx");
        fault(100, "label 12345;label 12345;label 12345;label 12345;label 12345;label 12345;label 12345;label 12345;map;");
    }

    private static void readClauses() {
        StairPaths x = new StairPaths();
        due.is("12 clauses", 12, readOf(x, "map;map;map;map;map;map;map;map;map;map;map;map"));
        due.is("CHOSEN comes round", 0, x.told(2));
        due.is("THE TEXT is empty", 0, x.count(3));
        due.is("map", 1, readOf(x, "map"));
        due.is("CHOSEN", 4, x.told(2));
        due.is("path", 1, readOf(x, "path nnenee"));
        due.is("CHOSEN", 1, x.told(2));
        due.is("turn", 1, readOf(x, "path nnneee;path nneene;turn") - 2);
        due.is("CHOSEN", 3, x.told(2));
        due.is("up", 1, readOf(x, "up 1"));
        due.is("CHOSEN", 1, x.told(2));
        due.is("down", 1, readOf(x, "down 3"));
        due.is("CHOSEN", 2, x.told(2));
        due.is("label", 1, readOf(x, "label 312"));
        due.is("label 0", 3, x.label(0, 0));
        due.is("label 1", 1, x.label(1, 0));
        due.is("label 2", 2, x.label(2, 0));
        due.is("LABELS aren't told well", 0, x.told(3));
        due.is("size and what is of it", 3, readOf(x, "size 5;path nenenenene;label 54321"));
        due.is("n", 5, x.told(0));
        due.is("CHOSEN", 41, x.told(2));
        due.is("label 4", 1, x.label(4, 0));
        due.is("size 2", 2, readOf(x, "size 2;path nene"));
        due.is("CHOSEN", 1, x.told(2));
        due.is("read no text", -10, x.read());
    }

    private static void readRefused() {
        StairPaths x = new StairPaths();
        x.choose(3);
        due.is("sizes", 0, readOf(x, "size 0;size 1;size 6;size 9"));
        due.is("paths", 0, readOf(x, "path n;path nnnneeee;path neenne;path nnnnee;path nnee;path eeennn"));
        due.is("ups", 0, readOf(x, "up 0;up 2;up 4;up 5;up 9"));
        due.is("downs", 0, readOf(x, "down 0;down 1;down 2;down 4;down 5;down 9"));
        due.is("labels", 0, readOf(x, "label 12;label 1234;label 112;label 012;label 234;label 311;label 9"));
        due.is("n", 3, x.told(0));
        due.is("CHOSEN", 3, x.told(2));
        due.is("label 0", 1, x.label(0, 0));
        due.is("label 2", 3, x.label(2, 0));
        due.is("some", 2, readOf(x, "size 7;label 231;size 1;up 1;down 9"));
        due.is("CHOSEN", 1, x.told(2));
        due.is("LABELS anew by up", 1, x.label(0, 0));
        due.is("path of the n that came", 1, readOf(x, "path nnee;size 2"));
        due.is("path of the n that came", 2, readOf(x, "size 2;path nene"));
        due.is("CHOSEN", 1, x.told(2));
    }

    private static void mix(StairPaths x) {
        x.size(3);
        x.choose(1);
        x.exchange(0, 2);
        due.is("mixed label", 3, x.label(0, 0));
    }

    private static void anew(String call, boolean want, StairPaths x) {
        due.is("label 0 behind " + call, want ? 1 : 3, x.label(0, 0));
        mix(x);
    }

    private static void labelsBeginAnew() {
        StairPaths x = new StairPaths();
        mix(x);
        x.size(3);
        anew("size", true, x);
        x.size(6);
        anew("size refused", false, x);
        x.choose(1);
        anew("choose, the same", true, x);
        x.choose(5);
        anew("choose refused", false, x);
        x.becomes(1);
        anew("becomes, the same", true, x);
        x.becomes(3);
        anew("becomes refused", false, x);
        x.raise(2);
        anew("raise", true, x);
        x.raise(0);
        anew("raise refused", false, x);
        x.lower(3);
        anew("lower", true, x);
        x.lower(0);
        anew("lower refused", false, x);
        x.image();
        mix(x);
        x.undo();
        due.is("label behind undo", 3, x.label(0, 0));
        for (String clause : new String[] {"size 3", "path nnenee", "map", "turn", "up 2", "down 3"}) {
            readOf(x, clause);
            anew(clause, true, x);
        }
        for (String clause : new String[] {"size 6", "path nnee", "up 0", "down 0", "label 11", "map;"}) {
            readOf(x, clause);
            anew(clause, false, x);
        }
    }
}
