/**
 * What the paragraph "Answers" says of all calls: each call that is refused, and each that asks, is made on an object
 * whose like goes without it, and both then tell the same of themselves. No object takes more than 512 calls.
 */
public final class EdgeAnswersTest {
    private static final Due due = new Due("EdgeAnswersTest");

    public static void main(String[] args) {
        due.sentence("NONE (-1) no such number; BAD (-2) a number is not as told; STATE (-3) as told; FULL (-4)",
            EdgeAnswersTest::answersAsNumbers);
        due.sentence("NO = Long.MIN_VALUE: There is no such number.", EdgeAnswersTest::answersAsNumbers);
        due.sentence("the first that a call's words name", EdgeAnswersTest::firstThatIsNamed);
        String refused = "What is answered so changes nothing";
        due.sentence(refused, EdgeAnswersTest::refusedPathCalls);
        due.sentence(refused, EdgeAnswersTest::refusedAskingCalls);
        due.sentence(refused, EdgeAnswersTest::refusedListCalls);
        due.sentence(refused, EdgeAnswersTest::refusedTapeCalls);
        due.sentence(refused, EdgeAnswersTest::refusedWhenFull);
        due.sentence(refused, EdgeAnswersTest::refusedUndo);
        String asked = "what is asked changes nothing";
        due.sentence(asked, EdgeAnswersTest::askedOfThePath);
        due.sentence(asked, EdgeAnswersTest::askedOfCounts);
        due.sentence(asked, EdgeAnswersTest::askedOfListsAndTapes);
        due.sentence("All that follows is asked, and changes nothing.", EdgeAnswersTest::askedWhileLabelsAreNotWell);
        due.sentence("THE TEXT, which is empty then (by a FAULT, too)", EdgeAnswersTest::aFaultEmptiesTheTextAlone);
        due.sentence("those that would be refused aren't", EdgeAnswersTest::refusedClausesChangeNothing);
        due.sentence("THE IMAGE is taken: the number of CHOSEN.", EdgeAnswersTest::imageChangesTheImageAlone);
        due.sentence("An object is used for at most 512 calls after it has been made", EdgeAnswersTest::lastOfAllCalls);
        due.sentence("An object is used for at most 512 calls after it has been made", EdgeAnswersTest::dearestCalls);
        due.sentence("How the state is held inside the object is free", EdgeAnswersTest::objectsHaveAStateEach);
        due.end();
    }

    interface Call {
        long on(StairPaths x);
    }

    // ---- objects to ask

    private static final int SOME = 0, FULL = 1, NO_IMAGE = 2;

    private static StairPaths made(int state, String text) {
        StairPaths x = new StairPaths();
        if (state != NO_IMAGE) {
            x.size(5);
            x.choose(30);
            rows(x, 1);
            x.exchange(0, 1);
            x.image();
            x.size(4);
        }
        x.choose(3);
        x.exchange(0, 2);
        rows(x, state == FULL ? 8 : 2);
        Stairs.tape(x, 0, 0, 0, 1, 1);
        Stairs.tape(x, 1, 0, 3, 4);
        Stairs.tape(x, 2, 3, 5, 6);
        Stairs.feed(x, state == FULL ? text + "m".repeat(100 - text.length()) : text);
        return x;
    }

    private static void rows(StairPaths x, int many) {
        for (int k = 0; k < many; k++) {
            x.see(k, k + 1);
            x.event(k % 3 == 0 ? 3 : k % 3 == 1 ? 0 : 1, k % 3 == 0 ? 2 : 0);
            x.book(k % 5, k % 3);
        }
    }

    /** All that an object tells of itself, and what becomes of it by read and undo. */
    private static String toldBy(StairPaths x) {
        StringBuilder told = new StringBuilder();
        state(x, told);
        for (int tape = 0; tape < 6; tape++) {
            told.append(" tape ").append(x.judge(tape, 0)).append(':').append(Stairs.items(x, tape));
        }
        told.append(" read ").append(x.read());
        state(x, told);
        told.append(" undo ").append(x.undo());
        state(x, told);
        return told.toString();
    }

    private static void state(StairPaths x, StringBuilder told) {
        for (int what = 0; what < 7; what++) {
            told.append(' ').append(x.told(what));
        }
        told.append(" labels ").append(Stairs.labels(x)).append(" counts");
        for (int what = 0; what < 4; what++) {
            told.append(' ').append(x.count(what));
        }
        told.append(" lists ").append(x.fits()).append(' ').append(x.looked());
        String labels = Stairs.labels(x);
        int chosen = x.told(2);
        for (int path = 0; path < x.told(1); path += 3) {
            x.choose(path);
            told.append(' ').append(x.after(0)).append(' ').append(x.fits());
        }
        x.choose(chosen);
        Stairs.tell(x, labels);
    }

    private static void changesNothing(String call, long want, Call made, int... states) {
        for (int state : states) {
            StairPaths x = made(state, "turn;map");
            StairPaths like = made(state, "turn;map");
            due.is(call + " in state " + state, want, made.on(x));
            due.is("what is told behind " + call + " in state " + state, toldBy(like), toldBy(x));
        }
    }

    private static void refused(String call, long want, Call made) {
        changesNothing(call, want, made, SOME, FULL, NO_IMAGE);
    }

    /** Whatever it answers: what it answers is told by the other tests. */
    private static void asked(String call, Call made) {
        for (int state : new int[] {SOME, FULL, NO_IMAGE}) {
            long answer = made.on(made(state, "turn;map"));
            changesNothing(call, answer, made, state);
        }
    }

    // ---- answers

    private static void answersAsNumbers() {
        StairPaths x = made(FULL, "");
        due.is("choose(-1)", -1, x.choose(-1));
        due.is("size(1)", -2, x.size(1));
        due.is("raise(0)", -3, x.raise(0));
        due.is("see(0, 1)", -4, x.see(0, 1));
        due.is("peek(5, 0)", Long.MIN_VALUE, x.peek(5, 0));
        due.is("item(5, 0, 0)", -11, x.item(5, 0, 0));
        due.is("judge(2, 0)", -12, x.judge(2, 0));
        due.is("item(0, 3, 0)", -13, x.item(0, 3, 0));
        due.is("tape(0, 0, -1)", -14, x.tape(0, 0, -1));
    }

    /** Of the calls whose words name two refusals or more, one call each by which the first and a later one hold. */
    private static void firstThatIsNamed() {
        StairPaths x = made(FULL, "");
        Stairs.tell(x, "3214");
        due.is("LABELS aren't told well", 0, x.told(3));
        due.is("raise(7), BAD ahead of STATE", -2, x.raise(7));
        due.is("lower(-1), BAD ahead of STATE", -2, x.lower(-1));
        due.is("feed(128), BAD ahead of FULL", -2, x.feed(128));
        due.is("label(4, 1), NONE ahead of STATE", -1, x.label(4, 1));
        due.is("see(5, 6), NONE ahead of BAD and FULL", -1, x.see(5, 6));
        due.is("see(0, 6), BAD ahead of FULL", -2, x.see(0, 6));
        due.is("event(4, 9), NONE ahead of BAD and FULL", -1, x.event(4, 9));
        due.is("event(0, 9), BAD ahead of FULL", -2, x.event(0, 9));
        due.is("book(14, 11), NONE ahead of BAD and FULL", -1, x.book(14, 11));
        due.is("book(0, 11), BAD ahead of FULL", -2, x.book(0, 11));
        due.is("judge(-1, -1), NONE ahead of CAST", -1, x.judge(-1, -1));
        due.is("tape(6, 5, -1), NONE ahead of BAD and SIZE", -1, x.tape(6, 5, -1));
        due.is("tape(0, 5, -1), BAD ahead of SIZE", -2, x.tape(0, 5, -1));
        due.is("item(6, -1, 0), NONE ahead of NOTHING and PLACE", -1, x.item(6, -1, 0));
        due.is("item(5, -1, 0), NOTHING ahead of PLACE", -11, x.item(5, -1, 0));
        due.is("shift(0, 0, 6, 0, -1), NONE ahead of the rest", -1, x.shift(0, 0, 6, 0, -1));
        due.is("shift(2, 0, 5, 0, -1), NOTHING ahead of CAST and PLACE", -11, x.shift(2, 0, 5, 0, -1));
        due.is("shift(0, 0, 2, 0, -1), CAST ahead of PLACE", -12, x.shift(0, 0, 2, 0, -1));
    }

    // ---- refused calls

    private static void refusedPathCalls() {
        refused("size(1)", StairPaths.BAD, x -> x.size(1));
        refused("size(6)", StairPaths.BAD, x -> x.size(6));
        refused("choose(-1)", StairPaths.NONE, x -> x.choose(-1));
        refused("choose(14)", StairPaths.NONE, x -> x.choose(14));
        refused("becomes(-1)", StairPaths.NONE, x -> x.becomes(-1));
        refused("becomes(3)", StairPaths.NONE, x -> x.becomes(3));
        refused("raise(-1)", StairPaths.BAD, x -> x.raise(-1));
        refused("raise(7)", StairPaths.BAD, x -> x.raise(7));
        refused("raise(0)", StairPaths.STATE, x -> x.raise(0));
        refused("lower(-1)", StairPaths.BAD, x -> x.lower(-1));
        refused("lower(7)", StairPaths.BAD, x -> x.lower(7));
        refused("lower(0)", StairPaths.STATE, x -> x.lower(0));
        refused("exchange(-1, 0)", StairPaths.NONE, x -> x.exchange(-1, 0));
        refused("exchange(0, 4)", StairPaths.NONE, x -> x.exchange(0, 4));
        refused("exchange(1, 1)", StairPaths.NONE, x -> x.exchange(1, 1));
        refused("feed(-1)", StairPaths.BAD, x -> x.feed(-1));
        refused("feed(128)", StairPaths.BAD, x -> x.feed(128));
    }

    private static void refusedAskingCalls() {
        refused("told(7)", StairPaths.NONE, x -> x.told(7));
        refused("of(14, 0)", StairPaths.NONE, x -> x.of(14, 0));
        refused("of(0, 5)", StairPaths.NONE, x -> x.of(0, 5));
        refused("row(0, 4)", StairPaths.NONE, x -> x.row(0, 4));
        refused("step(0, 8)", StairPaths.NONE, x -> x.step(0, 8));
        refused("mapped(0, 3)", StairPaths.NONE, x -> x.mapped(0, 3));
        refused("label(4, 0)", StairPaths.NONE, x -> x.label(4, 0));
        refused("written(-1)", StairPaths.NONE, x -> x.written(-1));
        refused("counted(5, 0, 0, 0)", StairPaths.NONE, x -> x.counted(5, 0, 0, 0));
        refused("sum(0, 0, 9, 0)", StairPaths.NO, x -> x.sum(0, 0, 9, 0));
        refused("ways(-2)", StairPaths.NONE, x -> x.ways(-2));
        refused("odds(0, 0, 2)", StairPaths.NO, x -> x.odds(0, 0, 2));
        refused("mean(5, 0)", StairPaths.NO, x -> x.mean(5, 0));
        refused("after(3)", StairPaths.NONE, x -> x.after(3));
        refused("count(4)", StairPaths.BAD, x -> x.count(4));
    }

    private static void refusedListCalls() {
        refused("see(-2, 1)", StairPaths.NONE, x -> x.see(-2, 1));
        refused("see(5, 1)", StairPaths.NONE, x -> x.see(5, 1));
        refused("see(0, 0)", StairPaths.BAD, x -> x.see(0, 0));
        refused("see(0, 6)", StairPaths.BAD, x -> x.see(0, 6));
        refused("event(-2, 0)", StairPaths.NONE, x -> x.event(-2, 0));
        refused("event(4, 0)", StairPaths.NONE, x -> x.event(4, 0));
        refused("event(0, 1)", StairPaths.BAD, x -> x.event(0, 1));
        refused("event(2, 9)", StairPaths.BAD, x -> x.event(2, 9));
        refused("event(3, -1)", StairPaths.BAD, x -> x.event(3, -1));
        refused("book(-2, 0)", StairPaths.NONE, x -> x.book(-2, 0));
        refused("book(14, 0)", StairPaths.NONE, x -> x.book(14, 0));
        refused("book(0, -1)", StairPaths.BAD, x -> x.book(0, -1));
        refused("book(0, 11)", StairPaths.BAD, x -> x.book(0, 11));
    }

    private static void refusedTapeCalls() {
        refused("judge(6, 0)", StairPaths.NONE, x -> x.judge(6, 0));
        refused("judge(2, 0)", Stairs.CAST, x -> x.judge(2, 0));
        refused("tape(6, 0, 1)", StairPaths.NONE, x -> x.tape(6, 0, 1));
        refused("tape(0, 5, 1)", StairPaths.BAD, x -> x.tape(0, 5, 1));
        refused("tape(0, 0, 61)", StairPaths.BAD, x -> x.tape(0, 0, 61));
        refused("tape(0, 0, -1)", Stairs.SIZE, x -> x.tape(0, 0, -1));
        refused("item(-1, 0, 9)", StairPaths.NONE, x -> x.item(-1, 0, 9));
        refused("item(5, 0, 9)", Stairs.NOTHING, x -> x.item(5, 0, 9));
        refused("item(0, 3, 9)", Stairs.PLACE, x -> x.item(0, 3, 9));
        refused("item(0, -1, 9)", Stairs.PLACE, x -> x.item(0, -1, 9));
        refused("peek(0, 3)", StairPaths.NO, x -> x.peek(0, 3));
        refused("shift(0, 0, 6, 0, 1)", StairPaths.NONE, x -> x.shift(0, 0, 6, 0, 1));
        refused("shift(5, 0, 0, 0, 1)", Stairs.NOTHING, x -> x.shift(5, 0, 0, 0, 1));
        refused("shift(0, 0, 5, 0, 1)", Stairs.NOTHING, x -> x.shift(0, 0, 5, 0, 1));
        refused("shift(1, 0, 2, 0, 1)", Stairs.CAST, x -> x.shift(1, 0, 2, 0, 1));
        refused("shift(0, 0, 1, 0, 3)", Stairs.PLACE, x -> x.shift(0, 0, 1, 0, 3));
        refused("shift(1, 0, 0, 0, 3)", Stairs.PLACE, x -> x.shift(1, 0, 0, 0, 3));
        refused("shift(1, 0, 0, 2, 2)", Stairs.PLACE, x -> x.shift(1, 0, 0, 2, 2));
    }

    private static void refusedWhenFull() {
        changesNothing("feed('x')", StairPaths.FULL, x -> x.feed('x'), FULL);
        changesNothing("see(3, 1)", StairPaths.FULL, x -> x.see(3, 1), FULL);
        changesNothing("event(0, 0)", StairPaths.FULL, x -> x.event(0, 0), FULL);
        changesNothing("book(0, 6)", StairPaths.FULL, x -> x.book(0, 6), FULL);
    }

    private static void refusedUndo() {
        changesNothing("undo()", StairPaths.STATE, x -> x.undo(), NO_IMAGE);
    }

    // ---- calls that ask

    private static void askedOfThePath() {
        for (int k = 0; k < 7; k++) {
            int what = k;
            asked("told(" + what + ")", x -> x.told(what));
        }
        asked("of(4, 1)", x -> x.of(4, 1));
        asked("row(4, 1)", x -> x.row(4, 1));
        asked("step(4, 1)", x -> x.step(4, 1));
        for (int k = 0; k < 3; k++) {
            int what = k;
            asked("mapped(4, " + what + ")", x -> x.mapped(4, what));
            asked("label(2, " + what + ")", x -> x.label(2, what));
        }
        asked("written(1)", x -> x.written(1));
        asked("written(99)", x -> x.written(99));
    }

    private static void askedOfCounts() {
        asked("counted(0, 1, 1, 1)", x -> x.counted(0, 1, 1, 1));
        asked("sum(0, 1, 2, 3)", x -> x.sum(0, 1, 2, 3));
        asked("ways(2)", x -> x.ways(2));
        asked("ways(-1)", x -> x.ways(-1));
        asked("fits()", x -> x.fits());
        asked("odds(0, 1, 0)", x -> x.odds(0, 1, 0));
        asked("mean(0, 1)", x -> x.mean(0, 1));
    }

    private static void askedOfListsAndTapes() {
        for (int k = 0; k < 4; k++) {
            int what = k;
            asked("after(" + what + ")", x -> x.after(what));
            asked("count(" + what + ")", x -> x.count(what));
        }
        asked("looked()", x -> x.looked());
        asked("judge(0, 0)", x -> x.judge(0, 0));
        asked("judge(0, 2)", x -> x.judge(0, 2));
        asked("judge(5, 0)", x -> x.judge(5, 0));
        asked("peek(2, 1)", x -> x.peek(2, 1));
        asked("peek(5, 0)", x -> x.peek(5, 0));
    }

    private static void askedWhileLabelsAreNotWell() {
        for (Call call : new Call[] {x -> x.told(3), x -> x.told(4), x -> x.label(0, 1), x -> x.label(2, 2),
            x -> x.ways(0), x -> x.fits(), x -> x.written(1)}) {
            StairPaths x = Stairs.of("nnneee", "231");
            call.on(x);
            due.is("LABELS", "231", Stairs.labels(x));
            due.is("whether they are told well", 0, x.told(3));
        }
    }

    // ---- what else changes no more than it should

    private static void aFaultEmptiesTheTextAlone() {
        for (String text : new String[] {"map;maP", "size 5;", "label 4321;x", "turn "}) {
            for (int state : new int[] {SOME, NO_IMAGE}) {
                StairPaths x = made(state, text);
                due.holds("read of " + text + " tells a FAULT", x.read() <= -10);
                due.is("what is told behind read of " + text, toldBy(made(state, "")), toldBy(x));
            }
        }
    }

    private static void refusedClausesChangeNothing() {
        for (String text : new String[] {"size 1;size 6", "path ne;path neen", "up 0;up 9", "down 0;down 9",
            "label 1;label 5;label 1111"}) {
            for (int state : new int[] {SOME, NO_IMAGE}) {
                StairPaths x = made(state, text);
                due.is("CLAUSES done of " + text, 0, x.read());
                due.is("what is told behind read of " + text, toldBy(made(state, "")), toldBy(x));
            }
        }
    }

    private static void imageChangesTheImageAlone() {
        StairPaths x = made(SOME, "turn;map");
        StairPaths like = made(SOME, "turn;map");
        due.is("image", 3, x.image());
        StringBuilder told = new StringBuilder();
        StringBuilder want = new StringBuilder();
        state(x, told);
        state(like, want);
        due.is("what is told behind image", want.toString(), told.toString());
        due.is("THE TEXT", like.read(), x.read());
        due.is("undo", 3, x.undo());
        due.is("n", 4, x.told(0));
        due.is("LABELS", "3214", Stairs.labels(x));
    }

    private static void lastOfAllCalls() {
        StairPaths x = new StairPaths();
        for (int call = 1; call < 512; call++) {
            due.is("exchange, call " + call, call % 2 == 1 ? 0 : 1, x.exchange(0, 1));
        }
        due.is("told(3), call 512", 0, x.told(3));
        x = new StairPaths();
        for (int call = 1; call < 512; call++) {
            x.tape(call % 6, call % 5, call % 61);
        }
        due.is("peek of the last row, call 512", 0, x.peek(511 % 6, 22));
    }

    private static void dearestCalls() {
        StairPaths x = Stairs.of(5, 41);
        for (int call = 3; call <= 512; call += 3) {
            due.is("fits", 120, x.fits());
            due.is("ways of all", 1296, x.ways(-1));
            due.is("sum", 42, x.sum(0, 1, 1, 1));
        }
    }

    private static void objectsHaveAStateEach() {
        StairPaths x = made(SOME, "turn;map");
        String told = toldBy(made(SOME, "turn;map"));
        StairPaths other = new StairPaths();
        other.size(2);
        rows(other, 3);
        other.image();
        Stairs.tape(other, 0, 0, 9, 9, 9, 9);
        Stairs.feed(other, "up 1");
        due.is("what is told while there is another", told, toldBy(x));
        due.is("n of the other", 2, other.told(0));
        due.is("THE TEXT of the other", 4, other.count(3));
        due.is("a TAPE of the other", "9 9 9 9", Stairs.items(other, 0));
    }
}
