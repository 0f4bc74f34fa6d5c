/** Boundary cases of PATHS and of promises 1 to 6: a test for each sentence of the document that names one. */
public final class EdgePathsTest {
    private static final Due due = new Due("EdgePathsTest");

    public static void main(String[] args) {
        terms();
        newObjectAndSize();
        chooseAndBecomes();
        raiseAndLower();
        due.end();
    }

    private static void terms() {
        due.sentence("PATHS: rows of n STEPS n (up) and n STEPS e (along)", EdgePathsTest::noFewerUps);
        due.sentence("in any order by which among the first k of them (for each k) there are no fewer n than e",
            EdgePathsTest::noFewerUps);
        due.sentence("They are numbered from 0 as words, n ahead of e", EdgePathsTest::numberedAsWords);
        due.sentence("(PATH 0 is all n, then all e)", EdgePathsTest::firstAndLastPath);
        due.sentence("ROW i (0 .. n - 1) of a PATH: i less how many STEPS e are ahead of its STEP n number i (from 0)",
            EdgePathsTest::leastAndGreatestRows);
        due.sentence("AREA: all ROWS, together", EdgePathsTest::leastAndGreatestArea);
        due.sentence("with ROW i like ROW j, or just 1 more", EdgePathsTest::rowsThatMeet);
        due.sentence("TWOS counts i ahead of j with ROW i as ROW j, or 1 more than ROW j", EdgePathsTest::twosAheadAlone);
        due.sentence("BOUNCE: d is 0; as long as d is less than n", EdgePathsTest::bounceEnds);
        due.sentence("TOUCHES: how many ROWS are 0", EdgePathsTest::touches);
        due.sentence("PEAKS: how many STEPS n have a STEP e right behind", EdgePathsTest::peaks);
        due.sentence("MAP of a PATH: for k of 0, 1, .. (till n)", EdgePathsTest::mapOfFirstAndLast);
        due.sentence("TURNED: its STEPS from the last one on, n for e, and e for n", EdgePathsTest::turned);
    }

    private static void newObjectAndSize() {
        due.sentence("n 3, CHOSEN is PATH 0.", EdgePathsTest::newObject);
        due.sentence("CHOSEN: a PATH (0 at first)", EdgePathsTest::newObject);
        due.sentence("n (2 .. 5; 3 at first)", EdgePathsTest::eachSize);
        due.sentence("n becomes this; CHOSEN is PATH 0, LABELS 1, 2, ..: what it was. BAD.", EdgePathsTest::sizeTooSmall);
        due.sentence("n becomes this; CHOSEN is PATH 0, LABELS 1, 2, ..: what it was. BAD.", EdgePathsTest::sizeTooLarge);
        due.sentence("n becomes this; CHOSEN is PATH 0, LABELS 1, 2, ..", EdgePathsTest::sizeThatItHas);
        due.sentence("SEEN, EVENTS, the BOOK and THE TEXT stay behind size.", EdgePathsTest::whatStaysBehindSize);
        due.sentence("THE IMAGE: n, CHOSEN, LABELS, SEEN, EVENTS, the BOOK.", EdgePathsTest::imageStaysBehindSize);
    }

    private static void chooseAndBecomes() {
        due.sentence("CHOSEN becomes a PATH: the number that was. NONE: path.", EdgePathsTest::chooseFirstAndLast);
        due.sentence("CHOSEN becomes a PATH: the number that was. NONE: path.", EdgePathsTest::chooseBelow);
        due.sentence("CHOSEN becomes a PATH: the number that was. NONE: path.", EdgePathsTest::chooseBehindTheLast);
        due.sentence("CHOSEN becomes a PATH: the number that was. NONE: path.", EdgePathsTest::chooseWhatItIs);
        due.sentence("CHOSEN becomes its MAP (how 0), what it is TURNED (1), BACK of it (2): its number. NONE: how.",
            EdgePathsTest::becomesFirstAndLast);
        due.sentence("CHOSEN becomes its MAP (how 0), what it is TURNED (1), BACK of it (2): its number. NONE: how.",
            EdgePathsTest::becomesWhatItIs);
        due.sentence("CHOSEN becomes its MAP (how 0), what it is TURNED (1), BACK of it (2): its number. NONE: how.",
            EdgePathsTest::becomesNone);
    }

    private static void raiseAndLower() {
        due.sentence("RAISED at a place i (0 ..): if STEP i is e, and STEP i + 1 n, these two change places",
            EdgePathsTest::raisedEverywhere);
        due.sentence("LOWERED: if STEP i is n, and i + 1 e, these two change places, if that is a PATH",
            EdgePathsTest::loweredEverywhere);
        due.sentence("CHOSEN is RAISED at i: its number. BAD: i (0 .. 2 n less 2)", EdgePathsTest::raiseAtFirstAndLastPlace);
        due.sentence("CHOSEN is RAISED at i: its number. BAD: i (0 .. 2 n less 2)", EdgePathsTest::raiseBelow);
        due.sentence("CHOSEN is RAISED at i: its number. BAD: i (0 .. 2 n less 2)", EdgePathsTest::raiseBehind);
        due.sentence("STATE: it can't be", EdgePathsTest::raiseThatCannotBe);
        due.sentence("CHOSEN is LOWERED at i: its number. BAD: i (likewise)", EdgePathsTest::lowerAtFirstAndLastPlace);
        due.sentence("CHOSEN is LOWERED at i: its number. BAD: i (likewise)", EdgePathsTest::lowerBelow);
        due.sentence("CHOSEN is LOWERED at i: its number. BAD: i (likewise)", EdgePathsTest::lowerBehind);
        due.sentence("STATE: it can't be", EdgePathsTest::lowerThatCannotBe);
        due.sentence("if that is a PATH", EdgePathsTest::lowerUnderTheSlope);
    }

    // ---- Terms 1

    private static void noFewerUps() {
        int[] paths = {2, 5, 14, 42};
        for (int n = 2; n <= 5; n++) {
            due.is("how many PATHS of " + n, paths[n - 2], Stairs.of(n, 0).told(1));
            for (int path = 0; path < paths[n - 2]; path++) {
                int height = 0;
                for (char step : Stairs.word(Stairs.of(n, 0), path).toCharArray()) {
                    height += step == 'n' ? 1 : -1;
                    due.holds("PATH " + path + " of " + n + " stays above the slope", height >= 0);
                }
                due.is("as many e as n in PATH " + path + " of " + n, 0, height);
            }
        }
    }

    private static void numberedAsWords() {
        for (int n = 2; n <= 5; n++) {
            for (int path = 0; path <= Stairs.lastPath(n); path++) {
                due.is("PATH " + path, Stairs.words(n).get(path), Stairs.word(Stairs.of(n, 0), path));
            }
        }
    }

    private static void firstAndLastPath() {
        for (int n = 2; n <= 5; n++) {
            StairPaths x = Stairs.of(n, 0);
            due.is("PATH 0", "n".repeat(n) + "e".repeat(n), Stairs.word(x, 0));
            due.is("the last PATH", "ne".repeat(n), Stairs.word(x, Stairs.lastPath(n)));
            due.is("a STEP of the PATH behind it", StairPaths.NONE, x.step(Stairs.lastPath(n) + 1, 0));
            due.is("a STEP of the PATH ahead of 0", StairPaths.NONE, x.step(-1, 0));
        }
    }

    private static void leastAndGreatestRows() {
        for (int n = 2; n <= 5; n++) {
            StairPaths x = Stairs.of(n, 0);
            due.is("ROWS of PATH 0", "01234".substring(0, n), Stairs.rows(x, 0));
            due.is("ROWS of the last PATH", "00000".substring(0, n), Stairs.rows(x, Stairs.lastPath(n)));
            for (int path = 0; path <= Stairs.lastPath(n); path++) {
                due.is("ROW 0 of PATH " + path, 0, x.row(path, 0));
            }
        }
    }

    private static void leastAndGreatestArea() {
        for (int n = 2; n <= 5; n++) {
            StairPaths x = Stairs.of(n, 0);
            due.is("AREA of PATH 0", n * (n - 1) / 2, x.of(0, 0));
            due.is("AREA of the last PATH", 0, x.of(Stairs.lastPath(n), 0));
        }
    }

    private static void rowsThatMeet() {
        StairPaths x = Stairs.of(4, 0);
        due.is("TWOS of ROWS 0 1 2 0: like, 1 more, not 2 more", 2, x.of(Stairs.number("nnneeene"), 2));
        due.is("TWOS of ROWS 0 1 2 1", 2, x.of(Stairs.number("nnneenee"), 2));
        due.is("TWOS of ROWS 0 0 0 0", 6, x.of(13, 2));
        x.size(5);
        due.is("TWOS of ROWS 0 1 2 3 0: neither 2 nor 3 more", 2, x.of(Stairs.number("nnnneeeene"), 2));
    }

    private static void twosAheadAlone() {
        for (int n = 2; n <= 5; n++) {
            due.is("TWOS of PATH 0, where each ROW is 1 more than the one ahead", 0, Stairs.of(n, 0).of(0, 2));
            due.is("TWOS of the last PATH, where all are alike", n * (n - 1) / 2,
                Stairs.of(n, 0).of(Stairs.lastPath(n), 2));
        }
        due.is("TWOS of ROWS 0 0 1 2", 1, Stairs.of(4, 0).of(Stairs.number("nennneee"), 2));
    }

    private static void bounceEnds() {
        for (int n = 2; n <= 5; n++) {
            due.is("BOUNCE of PATH 0, where d is n at once", 0, Stairs.of(n, 0).of(0, 1));
            due.is("BOUNCE of the last PATH, where d grows by 1", n * (n - 1) / 2,
                Stairs.of(n, 0).of(Stairs.lastPath(n), 1));
        }
        due.is("BOUNCE of nneene: d 2, then 3", 1, Stairs.of(3, 0).of(Stairs.number("nneene"), 1));
        due.is("BOUNCE of nennee: d 1, then 3", 2, Stairs.of(3, 0).of(Stairs.number("nennee"), 1));
        due.is("BOUNCE of nneneenene: d 2, 3, 4, 5", 6, Stairs.of(5, 0).of(Stairs.number("nneneenene"), 1));
    }

    private static void touches() {
        for (int n = 2; n <= 5; n++) {
            due.is("TOUCHES of PATH 0", 1, Stairs.of(n, 0).of(0, 4));
            due.is("TOUCHES of the last PATH", n, Stairs.of(n, 0).of(Stairs.lastPath(n), 4));
        }
        due.is("TOUCHES of nnnneeenee, ROW 1 at last", 1, Stairs.of(5, 0).of(Stairs.number("nnnneeenee"), 4));
        due.is("TOUCHES of nnnneeeene, ROW 0 at last", 2, Stairs.of(5, 0).of(Stairs.number("nnnneeeene"), 4));
    }

    private static void peaks() {
        for (int n = 2; n <= 5; n++) {
            due.is("PEAKS of PATH 0", 1, Stairs.of(n, 0).of(0, 3));
            due.is("PEAKS of the last PATH, one at each end", n, Stairs.of(n, 0).of(Stairs.lastPath(n), 3));
        }
        due.is("PEAKS of nennee", 2, Stairs.of(3, 0).of(Stairs.number("nennee"), 3));
    }

    private static void mapOfFirstAndLast() {
        for (int n = 2; n <= 5; n++) {
            StairPaths x = Stairs.of(n, 0);
            due.is("MAP of PATH 0, whose last ROW is e for k like n", Stairs.lastPath(n), x.mapped(0, 0));
            due.is("MAP of the last PATH, all n for k 0", 0, x.mapped(Stairs.lastPath(n), 0));
        }
        due.is("MAP of nnenneeene, which is the same PATH", 17, Stairs.of(5, 0).mapped(17, 0));
        due.is("MAP of nennee: nnen e e by its ROWS 0 0 1", Stairs.number("nneene"), Stairs.of(3, 0).mapped(3, 0));
    }

    private static void turned() {
        for (int n = 2; n <= 5; n++) {
            StairPaths x = Stairs.of(n, 0);
            due.is("PATH 0 TURNED", 0, x.mapped(0, 1));
            due.is("the last PATH TURNED", Stairs.lastPath(n), x.mapped(Stairs.lastPath(n), 1));
            for (int path = 0; path <= Stairs.lastPath(n); path++) {
                due.is("PATH " + path + " of " + n + " TURNED twice", path, x.mapped(x.mapped(path, 1), 1));
            }
        }
        due.is("nneene TURNED", Stairs.number("nennee"), Stairs.of(3, 0).mapped(2, 1));
    }

    // ---- Promises 1 and 2

    private static void newObject() {
        StairPaths x = new StairPaths();
        due.is("n", 3, x.told(0));
        due.is("CHOSEN", 0, x.told(2));
        due.is("LABELS", "123", Stairs.labels(x));
        for (int what = 0; what < 4; what++) {
            due.is("how many there are of " + what, 0, x.count(what));
        }
        due.is("no image", StairPaths.STATE, x.undo());
        due.is("no rows in the BOOK", -5, x.looked());
        due.is("no EVENTS", 0, x.after(0));
        due.is("nothing SEEN", 1, x.fits());
        for (int tape = 0; tape < 6; tape++) {
            due.is("TAPE " + tape, Stairs.NOTHING, x.item(tape, 0, 0));
        }
    }

    private static void eachSize() {
        StairPaths x = new StairPaths();
        int before = 3;
        for (int n : new int[] {2, 5, 4, 2, 3, 5, 2}) {
            due.is("size(" + n + ")", before, x.size(n));
            due.is("n", n, x.told(0));
            due.is("the LABEL of the last STEP n", n, x.label(n - 1, 0));
            due.is("the LABEL behind it", StairPaths.NONE, x.label(n, 0));
            before = n;
        }
    }

    private static void sizeTooSmall() {
        StairPaths x = Stairs.of("nneene", "213");
        for (int n : new int[] {1, 0, -1, -3, Stairs.MIN, Stairs.MIN + 3}) {
            due.is("size(" + n + ")", StairPaths.BAD, x.size(n));
        }
        due.is("n", 3, x.told(0));
        due.is("CHOSEN", 2, x.told(2));
        due.is("LABELS", "213", Stairs.labels(x));
    }

    private static void sizeTooLarge() {
        StairPaths x = Stairs.of("nneene", "213");
        for (int n : new int[] {6, 7, 42, 256 + 3, 65536 + 4, Stairs.MAX}) {
            due.is("size(" + n + ")", StairPaths.BAD, x.size(n));
        }
        due.is("n", 3, x.told(0));
        due.is("CHOSEN", 2, x.told(2));
        due.is("LABELS", "213", Stairs.labels(x));
    }

    private static void sizeThatItHas() {
        StairPaths x = Stairs.of("nneene", "213");
        due.is("size(3)", 3, x.size(3));
        due.is("CHOSEN", 0, x.told(2));
        due.is("LABELS", "123", Stairs.labels(x));
    }

    private static void whatStaysBehindSize() {
        StairPaths x = Stairs.of(5, 0);
        x.see(4, 5);
        x.event(1, 0);
        x.event(3, 4);
        x.book(41, 0);
        x.book(0, 9);
        x.book(1, 9);
        Stairs.feed(x, "turn");
        x.size(2);
        x.size(5);
        due.is("SEEN", 1, x.count(0));
        due.is("EVENTS", 2, x.count(1));
        due.is("the BOOK", 3, x.count(2));
        due.is("THE TEXT", 4, x.count(3));
        due.is("FITS of the one LABEL of nnnnneeeee that was SEEN", 1, x.fits());
        due.is("AFTER being LOWERED", 1, x.after(0));
        due.is("LOOKED at", 1, x.looked());
        due.is("read", 1, x.read());
    }

    private static void imageStaysBehindSize() {
        StairPaths x = Stairs.of("nennenee", "2143");
        x.image();
        x.size(2);
        x.size(5);
        due.is("undo", 10, x.undo());
        due.is("n", 4, x.told(0));
        due.is("LABELS", "2143", Stairs.labels(x));
    }

    // ---- Promises 3 and 4

    private static void chooseFirstAndLast() {
        for (int n = 2; n <= 5; n++) {
            StairPaths x = Stairs.of(n, 0);
            due.is("choose the last", 0, x.choose(Stairs.lastPath(n)));
            due.is("choose the first", Stairs.lastPath(n), x.choose(0));
            due.is("CHOSEN", 0, x.told(2));
        }
    }

    private static void chooseBelow() {
        StairPaths x = Stairs.of(4, 9);
        for (int path : new int[] {-1, -2, -14, Stairs.MIN, Stairs.MIN + 2}) {
            due.is("choose(" + path + ")", StairPaths.NONE, x.choose(path));
        }
        due.is("CHOSEN", 9, x.told(2));
    }

    private static void chooseBehindTheLast() {
        for (int n = 2; n <= 5; n++) {
            StairPaths x = Stairs.of(5, 41);
            x.size(n);
            x.choose(1);
            due.is("the first that there isn't", StairPaths.NONE, x.choose(Stairs.lastPath(n) + 1));
            due.is("choose(42)", StairPaths.NONE, x.choose(42));
            due.is("choose(256)", StairPaths.NONE, x.choose(256));
            due.is("choose(MAX)", StairPaths.NONE, x.choose(Stairs.MAX));
            due.is("CHOSEN", 1, x.told(2));
        }
    }

    private static void chooseWhatItIs() {
        StairPaths x = Stairs.of("nnenee", "213");
        due.is("choose(1)", 1, x.choose(1));
        due.is("CHOSEN", 1, x.told(2));
        due.is("LABELS", "123", Stairs.labels(x));
    }

    private static void becomesFirstAndLast() {
        for (int n = 2; n <= 5; n++) {
            StairPaths x = Stairs.of(n, 0);
            due.is("MAP of the first", Stairs.lastPath(n), x.becomes(0));
            due.is("CHOSEN", Stairs.lastPath(n), x.told(2));
            due.is("MAP of the last", 0, x.becomes(0));
            due.is("BACK of the first", Stairs.lastPath(n), x.becomes(2));
            due.is("the last TURNED", Stairs.lastPath(n), x.becomes(1));
            due.is("BACK of the last", 0, x.becomes(2));
            due.is("the first TURNED", 0, x.becomes(1));
        }
    }

    private static void becomesWhatItIs() {
        for (int how : new int[] {0, 2}) {
            StairPaths x = Stairs.of("nnenneeene", "54321");
            due.is("becomes(" + how + ") of the PATH that is its own MAP", 17, x.becomes(how));
            due.is("CHOSEN", 17, x.told(2));
            due.is("LABELS", "12345", Stairs.labels(x));
        }
    }

    private static void becomesNone() {
        StairPaths x = Stairs.of("nneene", "213");
        for (int how : new int[] {-1, 3, 256, Stairs.MIN, Stairs.MAX}) {
            due.is("becomes(" + how + ")", StairPaths.NONE, x.becomes(how));
        }
        due.is("CHOSEN", 2, x.told(2));
        due.is("LABELS", "213", Stairs.labels(x));
    }

    // ---- Promises 5 and 6

    private static String exchanged(String word, int i) {
        return word.substring(0, i) + word.charAt(i + 1) + word.charAt(i) + word.substring(i + 2);
    }

    private static void raisedEverywhere() {
        for (int n = 2; n <= 5; n++) {
            for (String word : Stairs.words(n)) {
                StairPaths x = Stairs.of(word);
                for (int i = 0; i <= 2 * n - 2; i++) {
                    boolean can = word.startsWith("en", i);
                    int want = can ? Stairs.number(exchanged(word, i)) : StairPaths.STATE;
                    due.is(word + " RAISED at " + i, want, x.raise(i));
                    due.is("CHOSEN then", can ? want : Stairs.number(word), x.choose(Stairs.number(word)));
                }
            }
        }
    }

    private static void loweredEverywhere() {
        for (int n = 2; n <= 5; n++) {
            for (String word : Stairs.words(n)) {
                StairPaths x = Stairs.of(word);
                for (int i = 0; i <= 2 * n - 2; i++) {
                    int lowered = word.startsWith("ne", i) ? Stairs.number(exchanged(word, i)) : -1;
                    int want = lowered >= 0 ? lowered : StairPaths.STATE;
                    due.is(word + " LOWERED at " + i, want, x.lower(i));
                    due.is("CHOSEN then", lowered >= 0 ? want : Stairs.number(word), x.choose(Stairs.number(word)));
                }
            }
        }
    }

    private static void raiseAtFirstAndLastPlace() {
        for (int n = 2; n <= 5; n++) {
            StairPaths x = Stairs.of(n, Stairs.lastPath(n));
            due.is("raise(0), n ahead", StairPaths.STATE, x.raise(0));
            due.is("raise at the last place, e behind", StairPaths.STATE, x.raise(2 * n - 2));
            due.is("raise(1), the first where it can be", Stairs.number("nnee" + "ne".repeat(n - 2)), x.raise(1));
            x.choose(Stairs.lastPath(n));
            due.is("raise, the last where it can be", Stairs.number("ne".repeat(n - 2) + "nnee"), x.raise(2 * n - 3));
        }
    }

    private static void raiseBelow() {
        StairPaths x = Stairs.of(5, 41);
        for (int i : new int[] {-1, -2, Stairs.MIN, Stairs.MIN + 1}) {
            due.is("raise(" + i + ")", StairPaths.BAD, x.raise(i));
        }
        due.is("CHOSEN", 41, x.told(2));
    }

    private static void raiseBehind() {
        for (int n = 2; n <= 5; n++) {
            StairPaths x = Stairs.of(n, Stairs.lastPath(n));
            due.is("raise(2 n less 1)", StairPaths.BAD, x.raise(2 * n - 1));
            due.is("raise(2 n)", StairPaths.BAD, x.raise(2 * n));
            due.is("raise(2 n and 1)", StairPaths.BAD, x.raise(2 * n + 1));
            due.is("raise(32 and 1)", StairPaths.BAD, x.raise(33));
            due.is("raise(MAX)", StairPaths.BAD, x.raise(Stairs.MAX));
            due.is("CHOSEN", Stairs.lastPath(n), x.told(2));
        }
    }

    private static void raiseThatCannotBe() {
        StairPaths x = Stairs.of("nnenee", "132");
        due.is("raise(0), n n", StairPaths.STATE, x.raise(0));
        due.is("raise(1), n e", StairPaths.STATE, x.raise(1));
        due.is("raise(4), e e", StairPaths.STATE, x.raise(4));
        due.is("CHOSEN", 1, x.told(2));
        due.is("LABELS", "132", Stairs.labels(x));
        for (int n = 2; n <= 5; n++) {
            for (int i = 0; i <= 2 * n - 2; i++) {
                due.is("PATH 0 RAISED at " + i, StairPaths.STATE, Stairs.of(n, 0).raise(i));
            }
        }
    }

    private static void lowerAtFirstAndLastPlace() {
        for (int n = 2; n <= 5; n++) {
            for (int path : new int[] {0, Stairs.lastPath(n)}) {
                StairPaths x = Stairs.of(n, path);
                due.is("lower(0)", StairPaths.STATE, x.lower(0));
                due.is("lower at the last place", StairPaths.STATE, x.lower(2 * n - 2));
                due.is("CHOSEN", path, x.told(2));
            }
            due.is("lower PATH 0 at its top", 1, Stairs.of(n, 0).lower(n - 1));
        }
    }

    private static void lowerBelow() {
        StairPaths x = Stairs.of(5, 0);
        for (int i : new int[] {-1, -2, Stairs.MIN, Stairs.MIN + 4}) {
            due.is("lower(" + i + ")", StairPaths.BAD, x.lower(i));
        }
        due.is("CHOSEN", 0, x.told(2));
    }

    private static void lowerBehind() {
        for (int n = 2; n <= 5; n++) {
            StairPaths x = Stairs.of(n, 0);
            due.is("lower(2 n less 1)", StairPaths.BAD, x.lower(2 * n - 1));
            due.is("lower(2 n)", StairPaths.BAD, x.lower(2 * n));
            due.is("lower(32 and n less 1)", StairPaths.BAD, x.lower(32 + n - 1));
            due.is("lower(MAX)", StairPaths.BAD, x.lower(Stairs.MAX));
            due.is("CHOSEN", 0, x.told(2));
        }
    }

    private static void lowerThatCannotBe() {
        StairPaths x = Stairs.of("nnenee", "132");
        due.is("lower(0), n n", StairPaths.STATE, x.lower(0));
        due.is("lower(2), e n", StairPaths.STATE, x.lower(2));
        due.is("lower(4), e e", StairPaths.STATE, x.lower(4));
        due.is("CHOSEN", 1, x.told(2));
        due.is("LABELS", "132", Stairs.labels(x));
    }

    private static void lowerUnderTheSlope() {
        for (int n = 2; n <= 5; n++) {
            StairPaths x = Stairs.of(n, Stairs.lastPath(n));
            for (int i = 0; i <= 2 * n - 2; i++) {
                due.is("the last PATH LOWERED at " + i, StairPaths.STATE, x.lower(i));
            }
            due.is("CHOSEN", Stairs.lastPath(n), x.told(2));
        }
        StairPaths x = Stairs.of("nneene");
        due.is("nneene LOWERED at 4, where it is at 0", StairPaths.STATE, x.lower(4));
        due.is("nneene LOWERED at 1, where it is at 1", Stairs.number("nenene"), x.lower(1));
    }
}
